theorem dX12_w3_0 : decode cX12_w3 0 = .ok (.iload_n 0, 1) := oc_26 (by decide +kernel)
theorem dX12_w3_1 : decode cX12_w3 1 = .ok (.i2l, 1) := oc_133 (by decide +kernel)
theorem dX12_w3_2 : decode cX12_w3 2 = .ok (.bipush 8, 2) := oc_16 (a := 8) (by decide +kernel)
theorem dX12_w3_4 : decode cX12_w3 4 = .ok (.lshl, 1) := oc_121 (by decide +kernel)
theorem dX12_w3_5 : decode cX12_w3 5 = .ok (.iload_n 1, 1) := oc_27 (by decide +kernel)
theorem dX12_w3_6 : decode cX12_w3 6 = .ok (.i2l, 1) := oc_133 (by decide +kernel)
theorem dX12_w3_7 : decode cX12_w3 7 = .ok (.lor, 1) := oc_129 (by decide +kernel)
theorem dX12_w3_8 : decode cX12_w3 8 = .ok (.bipush 8, 2) := oc_16 (a := 8) (by decide +kernel)
theorem dX12_w3_10 : decode cX12_w3 10 = .ok (.lshl, 1) := oc_121 (by decide +kernel)
theorem dX12_w3_11 : decode cX12_w3 11 = .ok (.iload_n 2, 1) := oc_28 (by decide +kernel)
theorem dX12_w3_12 : decode cX12_w3 12 = .ok (.i2l, 1) := oc_133 (by decide +kernel)
theorem dX12_w3_13 : decode cX12_w3 13 = .ok (.lor, 1) := oc_129 (by decide +kernel)
theorem dX12_w3_14 : decode cX12_w3 14 = .ok (.lreturn, 1) := oc_173 (by decide +kernel)
theorem dX12_w4_0 : decode cX12_w4 0 = .ok (.iload_n 0, 1) := oc_26 (by decide +kernel)
theorem dX12_w4_1 : decode cX12_w4 1 = .ok (.iload_n 1, 1) := oc_27 (by decide +kernel)
theorem dX12_w4_2 : decode cX12_w4 2 = .ok (.iload_n 2, 1) := oc_28 (by decide +kernel)
theorem tw_864 : Cond.methodLink RX12 160 yX12_w3 ∈ wsL_law := sg_37 _ (List.mem_of_getElem? (i := 0) rfl)
theorem tw_865 : Cond.static yX12_w3 ∈ wsL_law := sg_37 _ (List.mem_of_getElem? (i := 1) rfl)
theorem tw_5 : Cond.initialized RX12 ∈ wsL_law := sg_1 _ (List.mem_of_getElem? (i := 5) rfl)
theorem tw_866 : Cond.code yX12_w3 cX12_w3 3 (some .long) ∈ wsL_law := sg_37 _ (List.mem_of_getElem? (i := 2) rfl)
theorem dX12_w4_3 : decode cX12_w4 3 = .ok (.invokestatic 160, 3) := oc_184 (a := 0) (b := 160) (by decide +kernel)
theorem dX12_w4_6 : decode cX12_w4 6 = .ok (.bipush 8, 2) := oc_16 (a := 8) (by decide +kernel)
theorem dX12_w4_8 : decode cX12_w4 8 = .ok (.lshl, 1) := oc_121 (by decide +kernel)
theorem dX12_w4_9 : decode cX12_w4 9 = .ok (.iload_n 3, 1) := oc_29 (by decide +kernel)
theorem dX12_w4_10 : decode cX12_w4 10 = .ok (.i2l, 1) := oc_133 (by decide +kernel)
theorem dX12_w4_11 : decode cX12_w4 11 = .ok (.lor, 1) := oc_129 (by decide +kernel)
theorem dX12_w4_12 : decode cX12_w4 12 = .ok (.lreturn, 1) := oc_173 (by decide +kernel)
theorem dX12_w5_0 : decode cX12_w5 0 = .ok (.iload_n 0, 1) := oc_26 (by decide +kernel)
theorem dX12_w5_1 : decode cX12_w5 1 = .ok (.iload_n 1, 1) := oc_27 (by decide +kernel)
theorem dX12_w5_2 : decode cX12_w5 2 = .ok (.iload_n 2, 1) := oc_28 (by decide +kernel)
theorem dX12_w5_3 : decode cX12_w5 3 = .ok (.iload_n 3, 1) := oc_29 (by decide +kernel)
theorem tw_861 : Cond.methodLink RX12 164 yX12_w4 ∈ wsL_law := sg_36 _ (List.mem_of_getElem? (i := 21) rfl)
theorem tw_862 : Cond.static yX12_w4 ∈ wsL_law := sg_36 _ (List.mem_of_getElem? (i := 22) rfl)
theorem tw_863 : Cond.code yX12_w4 cX12_w4 4 (some .long) ∈ wsL_law := sg_36 _ (List.mem_of_getElem? (i := 23) rfl)
theorem dX12_w5_4 : decode cX12_w5 4 = .ok (.invokestatic 164, 3) := oc_184 (a := 0) (b := 164) (by decide +kernel)
theorem dX12_w5_7 : decode cX12_w5 7 = .ok (.bipush 8, 2) := oc_16 (a := 8) (by decide +kernel)
theorem dX12_w5_9 : decode cX12_w5 9 = .ok (.lshl, 1) := oc_121 (by decide +kernel)
theorem dX12_w5_10 : decode cX12_w5 10 = .ok (.iload 4, 2) := oc_21 (by decide +kernel)
theorem dX12_w5_12 : decode cX12_w5 12 = .ok (.i2l, 1) := oc_133 (by decide +kernel)
theorem dX12_w5_13 : decode cX12_w5 13 = .ok (.lor, 1) := oc_129 (by decide +kernel)
theorem dX12_w5_14 : decode cX12_w5 14 = .ok (.lreturn, 1) := oc_173 (by decide +kernel)
theorem dX12_w6_0 : decode cX12_w6 0 = .ok (.iload_n 0, 1) := oc_26 (by decide +kernel)
theorem dX12_w6_1 : decode cX12_w6 1 = .ok (.iload_n 1, 1) := oc_27 (by decide +kernel)
theorem dX12_w6_2 : decode cX12_w6 2 = .ok (.iload_n 2, 1) := oc_28 (by decide +kernel)
theorem dX12_w6_3 : decode cX12_w6 3 = .ok (.iload_n 3, 1) := oc_29 (by decide +kernel)
theorem dX12_w6_4 : decode cX12_w6 4 = .ok (.iload 4, 2) := oc_21 (by decide +kernel)
theorem tw_858 : Cond.methodLink RX12 168 yX12_w5 ∈ wsL_law := sg_36 _ (List.mem_of_getElem? (i := 18) rfl)
theorem tw_859 : Cond.static yX12_w5 ∈ wsL_law := sg_36 _ (List.mem_of_getElem? (i := 19) rfl)
theorem tw_860 : Cond.code yX12_w5 cX12_w5 5 (some .long) ∈ wsL_law := sg_36 _ (List.mem_of_getElem? (i := 20) rfl)
theorem dX12_w6_6 : decode cX12_w6 6 = .ok (.invokestatic 168, 3) := oc_184 (a := 0) (b := 168) (by decide +kernel)
theorem dX12_w6_9 : decode cX12_w6 9 = .ok (.bipush 8, 2) := oc_16 (a := 8) (by decide +kernel)
theorem dX12_w6_11 : decode cX12_w6 11 = .ok (.lshl, 1) := oc_121 (by decide +kernel)
theorem dX12_w6_12 : decode cX12_w6 12 = .ok (.iload 5, 2) := oc_21 (by decide +kernel)
theorem dX12_w6_14 : decode cX12_w6 14 = .ok (.i2l, 1) := oc_133 (by decide +kernel)
theorem dX12_w6_15 : decode cX12_w6 15 = .ok (.lor, 1) := oc_129 (by decide +kernel)
theorem dX12_w6_16 : decode cX12_w6 16 = .ok (.lreturn, 1) := oc_173 (by decide +kernel)
theorem dX12_isIn_0 : decode cX12_isIn 0 = .ok (.iload_n 0, 1) := oc_26 (by decide +kernel)
theorem dX12_isIn_1 : decode cX12_isIn 1 = .ok (.iload_n 1, 1) := oc_27 (by decide +kernel)
theorem dX12_isIn_2 : decode cX12_isIn 2 = .ok (.if_icmp .lt 12, 3) := oc_161 (a := 0) (b := 12) (by decide +kernel)
theorem dX12_isIn_14 : decode cX12_isIn 14 = .ok (.iconst 0, 1) := oc_3 (by decide +kernel)
theorem dX12_isIn_15 : decode cX12_isIn 15 = .ok (.ireturn, 1) := oc_172 (by decide +kernel)
theorem dX12_isIn_5 : decode cX12_isIn 5 = .ok (.iload_n 0, 1) := oc_26 (by decide +kernel)
theorem dX12_isIn_6 : decode cX12_isIn 6 = .ok (.iload_n 2, 1) := oc_28 (by decide +kernel)
theorem dX12_isIn_7 : decode cX12_isIn 7 = .ok (.if_icmp .gt 7, 3) := oc_163 (a := 0) (b := 7) (by decide +kernel)
theorem dX12_isIn_10 : decode cX12_isIn 10 = .ok (.iconst 1, 1) := oc_4 (by decide +kernel)
theorem dX12_isIn_11 : decode cX12_isIn 11 = .ok (.goto 4, 3) := oc_167 (a := 0) (b := 4) (by decide +kernel)
theorem dX12_isDigit_0 : decode cX12_isDigit 0 = .ok (.iload_n 0, 1) := oc_26 (by decide +kernel)
theorem dX12_isDigit_1 : decode cX12_isDigit 1 = .ok (.bipush 48, 2) := oc_16 (a := 48) (by decide +kernel)
theorem dX12_isDigit_3 : decode cX12_isDigit 3 = .ok (.bipush 57, 2) := oc_16 (a := 57) (by decide +kernel)
theorem tw_235 : Cond.methodLink RX12 62 yX12_isIn ∈ wsL_law := sg_10 _ (List.mem_of_getElem? (i := 19) rfl)
theorem tw_236 : Cond.static yX12_isIn ∈ wsL_law := sg_10 _ (List.mem_of_getElem? (i := 20) rfl)
theorem tw_237 : Cond.code yX12_isIn cX12_isIn 3 (some .boolean) ∈ wsL_law := sg_10 _ (List.mem_of_getElem? (i := 21) rfl)
theorem dX12_isDigit_5 : decode cX12_isDigit 5 = .ok (.invokestatic 62, 3) := oc_184 (a := 0) (b := 62) (by decide +kernel)
theorem dX12_isDigit_8 : decode cX12_isDigit 8 = .ok (.ireturn, 1) := oc_172 (by decide +kernel)
theorem dX12_isLetter_0 : decode cX12_isLetter 0 = .ok (.iload_n 0, 1) := oc_26 (by decide +kernel)
theorem dX12_isLetter_1 : decode cX12_isLetter 1 = .ok (.bipush 97, 2) := oc_16 (a := 97) (by decide +kernel)
theorem dX12_isLetter_3 : decode cX12_isLetter 3 = .ok (.bipush 122, 2) := oc_16 (a := 122) (by decide +kernel)
theorem dX12_isLetter_5 : decode cX12_isLetter 5 = .ok (.invokestatic 62, 3) := oc_184 (a := 0) (b := 62) (by decide +kernel)
theorem dX12_isLetter_8 : decode cX12_isLetter 8 = .ok (.ifCond .ne 14, 3) := oc_154 (a := 0) (b := 14) (by decide +kernel)
theorem dX12_isLetter_22 : decode cX12_isLetter 22 = .ok (.iconst 1, 1) := oc_4 (by decide +kernel)
theorem dX12_isLetter_23 : decode cX12_isLetter 23 = .ok (.goto 4, 3) := oc_167 (a := 0) (b := 4) (by decide +kernel)
theorem dX12_isLetter_27 : decode cX12_isLetter 27 = .ok (.ireturn, 1) := oc_172 (by decide +kernel)
theorem dX12_isLetter_11 : decode cX12_isLetter 11 = .ok (.iload_n 0, 1) := oc_26 (by decide +kernel)
theorem dX12_isLetter_12 : decode cX12_isLetter 12 = .ok (.bipush 65, 2) := oc_16 (a := 65) (by decide +kernel)
theorem dX12_isLetter_14 : decode cX12_isLetter 14 = .ok (.bipush 90, 2) := oc_16 (a := 90) (by decide +kernel)
theorem dX12_isLetter_16 : decode cX12_isLetter 16 = .ok (.invokestatic 62, 3) := oc_184 (a := 0) (b := 62) (by decide +kernel)
theorem dX12_isLetter_19 : decode cX12_isLetter 19 = .ok (.ifCond .eq 7, 3) := oc_153 (a := 0) (b := 7) (by decide +kernel)
theorem dX12_isLetter_26 : decode cX12_isLetter 26 = .ok (.iconst 0, 1) := oc_3 (by decide +kernel)
theorem dX12_see_0 : decode cX12_see 0 = .ok (.iload_n 1, 1) := oc_27 (by decide +kernel)
theorem dX12_see_1 : decode cX12_see 1 = .ok (.aload_n 0, 1) := oc_42 (by decide +kernel)
theorem tw_631 : Cond.fieldLink RX12 127 "RingsUnderModel" "taped" "I" ∈ wsL_law := sg_27 _ (List.mem_of_getElem? (i := 7) rfl)
theorem dX12_see_2 : decode cX12_see 2 = .ok (.getfield 127, 3) := oc_180 (a := 0) (b := 127) (by decide +kernel)
theorem dX12_see_5 : decode cX12_see 5 = .ok (.if_icmp .ge 12, 3) := oc_162 (a := 0) (b := 12) (by decide +kernel)
theorem dX12_see_17 : decode cX12_see 17 = .ok (.iconst (-1), 1) := oc_2 (by decide +kernel)
theorem dX12_see_18 : decode cX12_see 18 = .ok (.ireturn, 1) := oc_172 (by decide +kernel)
theorem dX12_see_8 : decode cX12_see 8 = .ok (.aload_n 0, 1) := oc_42 (by decide +kernel)
theorem tw_179 : Cond.fieldLink RX12 19 "RingsUnderModel" "tape" "[I" ∈ wsL_law := sg_8 _ (List.mem_of_getElem? (i := 11) rfl)
theorem dX12_see_9 : decode cX12_see 9 = .ok (.getfield 19, 3) := oc_180 (a := 0) (b := 19) (by decide +kernel)
theorem dX12_see_12 : decode cX12_see 12 = .ok (.iload_n 1, 1) := oc_27 (by decide +kernel)
theorem dX12_see_13 : decode cX12_see 13 = .ok (.iaload, 1) := oc_46 (by decide +kernel)
theorem dX12_see_14 : decode cX12_see 14 = .ok (.goto 4, 3) := oc_167 (a := 0) (b := 4) (by decide +kernel)
theorem dX12_nextToken_0 : decode cX12_nextToken 0 = .ok (.aload_n 0, 1) := oc_42 (by decide +kernel)
theorem dX12_nextToken_1 : decode cX12_nextToken 1 = .ok (.aload_n 0, 1) := oc_42 (by decide +kernel)
theorem tw_830 : Cond.fieldLink RX12 134 "RingsUnderModel" "at" "I" ∈ wsL_law := sg_35 _ (List.mem_of_getElem? (i := 14) rfl)
theorem dX12_nextToken_2 : decode cX12_nextToken 2 = .ok (.getfield 134, 3) := oc_180 (a := 0) (b := 134) (by decide +kernel)
theorem tw_839 : Cond.methodLink RX12 137 yX12_see ∈ wsL_law := sg_35 _ (List.mem_of_getElem? (i := 23) rfl)
theorem tw_840 : Cond.instanceMethod yX12_see ∈ wsL_law := sg_36 _ (List.mem_of_getElem? (i := 0) rfl)
theorem tw_841 : Cond.selects RX12 yX12_see yX12_see ∈ wsL_law := sg_36 _ (List.mem_of_getElem? (i := 1) rfl)
theorem tw_842 : Cond.code yX12_see cX12_see 2 (some .int) ∈ wsL_law := sg_36 _ (List.mem_of_getElem? (i := 2) rfl)
theorem dX12_nextToken_5 : decode cX12_nextToken 5 = .ok (.invokevirtual 137, 3) := oc_182 (a := 0) (b := 137) (by decide +kernel)
theorem dX12_nextToken_8 : decode cX12_nextToken 8 = .ok (.bipush 32, 2) := oc_16 (a := 32) (by decide +kernel)
theorem dX12_nextToken_10 : decode cX12_nextToken 10 = .ok (.if_icmp .eq 16, 3) := oc_159 (a := 0) (b := 16) (by decide +kernel)
theorem dX12_nextToken_26 : decode cX12_nextToken 26 = .ok (.aload_n 0, 1) := oc_42 (by decide +kernel)
theorem dX12_nextToken_27 : decode cX12_nextToken 27 = .ok (.dup, 1) := oc_89 (by decide +kernel)
theorem dX12_nextToken_28 : decode cX12_nextToken 28 = .ok (.getfield 134, 3) := oc_180 (a := 0) (b := 134) (by decide +kernel)
theorem dX12_nextToken_31 : decode cX12_nextToken 31 = .ok (.iconst 1, 1) := oc_4 (by decide +kernel)
theorem dX12_nextToken_32 : decode cX12_nextToken 32 = .ok (.iadd, 1) := oc_96 (by decide +kernel)
theorem dX12_nextToken_33 : decode cX12_nextToken 33 = .ok (.putfield 134, 3) := oc_181 (a := 0) (b := 134) (by decide +kernel)
theorem dX12_nextToken_36 : decode cX12_nextToken 36 = .ok (.goto (-36), 3) := oc_167 (a := 255) (b := 220) (by decide +kernel)
theorem dX12_nextToken_13 : decode cX12_nextToken 13 = .ok (.aload_n 0, 1) := oc_42 (by decide +kernel)
theorem dX12_nextToken_14 : decode cX12_nextToken 14 = .ok (.aload_n 0, 1) := oc_42 (by decide +kernel)
theorem dX12_nextToken_15 : decode cX12_nextToken 15 = .ok (.getfield 134, 3) := oc_180 (a := 0) (b := 134) (by decide +kernel)
theorem dX12_nextToken_18 : decode cX12_nextToken 18 = .ok (.invokevirtual 137, 3) := oc_182 (a := 0) (b := 137) (by decide +kernel)
theorem dX12_nextToken_21 : decode cX12_nextToken 21 = .ok (.bipush 10, 2) := oc_16 (a := 10) (by decide +kernel)
theorem dX12_nextToken_23 : decode cX12_nextToken 23 = .ok (.if_icmp .ne 16, 3) := oc_160 (a := 0) (b := 16) (by decide +kernel)
theorem dX12_nextToken_39 : decode cX12_nextToken 39 = .ok (.aload_n 0, 1) := oc_42 (by decide +kernel)
theorem dX12_nextToken_40 : decode cX12_nextToken 40 = .ok (.aload_n 0, 1) := oc_42 (by decide +kernel)
theorem dX12_nextToken_41 : decode cX12_nextToken 41 = .ok (.getfield 134, 3) := oc_180 (a := 0) (b := 134) (by decide +kernel)
theorem tw_820 : Cond.fieldLink RX12 140 "RingsUnderModel" "place" "I" ∈ wsL_law := sg_35 _ (List.mem_of_getElem? (i := 4) rfl)
theorem dX12_nextToken_44 : decode cX12_nextToken 44 = .ok (.putfield 140, 3) := oc_181 (a := 0) (b := 140) (by decide +kernel)
theorem dX12_nextToken_47 : decode cX12_nextToken 47 = .ok (.aload_n 0, 1) := oc_42 (by decide +kernel)
theorem dX12_nextToken_48 : decode cX12_nextToken 48 = .ok (.aload_n 0, 1) := oc_42 (by decide +kernel)
theorem dX12_nextToken_49 : decode cX12_nextToken 49 = .ok (.getfield 134, 3) := oc_180 (a := 0) (b := 134) (by decide +kernel)
theorem dX12_nextToken_52 : decode cX12_nextToken 52 = .ok (.invokevirtual 137, 3) := oc_182 (a := 0) (b := 137) (by decide +kernel)
theorem dX12_nextToken_55 : decode cX12_nextToken 55 = .ok (.istore_n 1, 1) := oc_60 (by decide +kernel)
theorem dX12_nextToken_56 : decode cX12_nextToken 56 = .ok (.iload_n 1, 1) := oc_27 (by decide +kernel)
theorem dX12_nextToken_57 : decode cX12_nextToken 57 = .ok (.ifCond .ge 11, 3) := oc_156 (a := 0) (b := 11) (by decide +kernel)
theorem dX12_nextToken_68 : decode cX12_nextToken 68 = .ok (.iload_n 1, 1) := oc_27 (by decide +kernel)
theorem tw_843 : Cond.methodLink RX12 146 yX12_isDigit ∈ wsL_law := sg_36 _ (List.mem_of_getElem? (i := 3) rfl)
theorem tw_844 : Cond.static yX12_isDigit ∈ wsL_law := sg_36 _ (List.mem_of_getElem? (i := 4) rfl)
theorem tw_845 : Cond.code yX12_isDigit cX12_isDigit 1 (some .boolean) ∈ wsL_law := sg_36 _ (List.mem_of_getElem? (i := 5) rfl)
theorem dX12_nextToken_69 : decode cX12_nextToken 69 = .ok (.invokestatic 146, 3) := oc_184 (a := 0) (b := 146) (by decide +kernel)
theorem dX12_nextToken_72 : decode cX12_nextToken 72 = .ok (.ifCond .eq 72, 3) := oc_153 (a := 0) (b := 72) (by decide +kernel)
theorem dX12_nextToken_144 : decode cX12_nextToken 144 = .ok (.iload_n 1, 1) := oc_27 (by decide +kernel)
theorem tw_846 : Cond.methodLink RX12 153 yX12_isLetter ∈ wsL_law := sg_36 _ (List.mem_of_getElem? (i := 6) rfl)
theorem tw_847 : Cond.static yX12_isLetter ∈ wsL_law := sg_36 _ (List.mem_of_getElem? (i := 7) rfl)
theorem tw_848 : Cond.code yX12_isLetter cX12_isLetter 1 (some .boolean) ∈ wsL_law := sg_36 _ (List.mem_of_getElem? (i := 8) rfl)
theorem dX12_nextToken_145 : decode cX12_nextToken 145 = .ok (.invokestatic 153, 3) := oc_184 (a := 0) (b := 153) (by decide +kernel)
theorem dX12_nextToken_148 : decode cX12_nextToken 148 = .ok (.ifCond .eq 97, 3) := oc_153 (a := 0) (b := 97) (by decide +kernel)
theorem dX12_nextToken_245 : decode cX12_nextToken 245 = .ok (.aload_n 0, 1) := oc_42 (by decide +kernel)
theorem dX12_nextToken_246 : decode cX12_nextToken 246 = .ok (.dup, 1) := oc_89 (by decide +kernel)
theorem dX12_nextToken_247 : decode cX12_nextToken 247 = .ok (.getfield 134, 3) := oc_180 (a := 0) (b := 134) (by decide +kernel)
theorem dX12_nextToken_250 : decode cX12_nextToken 250 = .ok (.iconst 1, 1) := oc_4 (by decide +kernel)
theorem dX12_nextToken_251 : decode cX12_nextToken 251 = .ok (.iadd, 1) := oc_96 (by decide +kernel)
theorem dX12_nextToken_252 : decode cX12_nextToken 252 = .ok (.putfield 134, 3) := oc_181 (a := 0) (b := 134) (by decide +kernel)
theorem dX12_nextToken_255 : decode cX12_nextToken 255 = .ok (.iload_n 1, 1) := oc_27 (by decide +kernel)
theorem dX12_nextToken_256 : decode cX12_nextToken 256 = .ok (.bipush 60, 2) := oc_16 (a := 60) (by decide +kernel)
theorem dX12_nextToken_332 : decode cX12_nextToken 332 = .ok (.istore_n 2, 1) := oc_61 (by decide +kernel)
theorem dX12_nextToken_333 : decode cX12_nextToken 333 = .ok (.aload_n 0, 1) := oc_42 (by decide +kernel)
theorem dX12_nextToken_334 : decode cX12_nextToken 334 = .ok (.iload_n 2, 1) := oc_28 (by decide +kernel)
theorem tw_831 : Cond.fieldLink RX12 143 "RingsUnderModel" "token" "I" ∈ wsL_law := sg_35 _ (List.mem_of_getElem? (i := 15) rfl)
theorem dX12_nextToken_343 : decode cX12_nextToken 343 = .ok (.putfield 143, 3) := oc_181 (a := 0) (b := 143) (by decide +kernel)
theorem dX12_nextToken_346 : decode cX12_nextToken 346 = .ok (.iload_n 1, 1) := oc_27 (by decide +kernel)
theorem dX12_nextToken_347 : decode cX12_nextToken 347 = .ok (.bipush 60, 2) := oc_16 (a := 60) (by decide +kernel)
theorem dX12_nextToken_349 : decode cX12_nextToken 349 = .ok (.if_icmp .eq 9, 3) := oc_159 (a := 0) (b := 9) (by decide +kernel)
theorem dX12_nextToken_358 : decode cX12_nextToken 358 = .ok (.aload_n 0, 1) := oc_42 (by decide +kernel)
theorem dX12_nextToken_359 : decode cX12_nextToken 359 = .ok (.aload_n 0, 1) := oc_42 (by decide +kernel)
theorem dX12_nextToken_360 : decode cX12_nextToken 360 = .ok (.getfield 134, 3) := oc_180 (a := 0) (b := 134) (by decide +kernel)
theorem dX12_nextToken_363 : decode cX12_nextToken 363 = .ok (.invokevirtual 137, 3) := oc_182 (a := 0) (b := 137) (by decide +kernel)
theorem dX12_nextToken_366 : decode cX12_nextToken 366 = .ok (.bipush 61, 2) := oc_16 (a := 61) (by decide +kernel)
theorem dX12_nextToken_368 : decode cX12_nextToken 368 = .ok (.if_icmp .ne 28, 3) := oc_160 (a := 0) (b := 28) (by decide +kernel)
theorem dX12_nextToken_396 : decode cX12_nextToken 396 = .ok (.return_, 1) := oc_177 (by decide +kernel)
theorem dX12_nextToken_371 : decode cX12_nextToken 371 = .ok (.aload_n 0, 1) := oc_42 (by decide +kernel)
theorem dX12_nextToken_372 : decode cX12_nextToken 372 = .ok (.dup, 1) := oc_89 (by decide +kernel)
theorem dX12_nextToken_373 : decode cX12_nextToken 373 = .ok (.getfield 134, 3) := oc_180 (a := 0) (b := 134) (by decide +kernel)
theorem dX12_nextToken_376 : decode cX12_nextToken 376 = .ok (.iconst 1, 1) := oc_4 (by decide +kernel)
theorem dX12_nextToken_377 : decode cX12_nextToken 377 = .ok (.iadd, 1) := oc_96 (by decide +kernel)
theorem dX12_nextToken_378 : decode cX12_nextToken 378 = .ok (.putfield 134, 3) := oc_181 (a := 0) (b := 134) (by decide +kernel)
theorem dX12_nextToken_381 : decode cX12_nextToken 381 = .ok (.aload_n 0, 1) := oc_42 (by decide +kernel)
theorem dX12_nextToken_382 : decode cX12_nextToken 382 = .ok (.iload_n 1, 1) := oc_27 (by decide +kernel)
theorem dX12_nextToken_383 : decode cX12_nextToken 383 = .ok (.bipush 60, 2) := oc_16 (a := 60) (by decide +kernel)
theorem dX12_nextToken_385 : decode cX12_nextToken 385 = .ok (.if_icmp .ne 7, 3) := oc_160 (a := 0) (b := 7) (by decide +kernel)
theorem dX12_nextToken_388 : decode cX12_nextToken 388 = .ok (.iconst 4, 1) := oc_7 (by decide +kernel)
theorem dX12_nextToken_389 : decode cX12_nextToken 389 = .ok (.goto 4, 3) := oc_167 (a := 0) (b := 4) (by decide +kernel)
theorem dX12_nextToken_393 : decode cX12_nextToken 393 = .ok (.putfield 143, 3) := oc_181 (a := 0) (b := 143) (by decide +kernel)
theorem dX12_nextToken_352 : decode cX12_nextToken 352 = .ok (.iload_n 1, 1) := oc_27 (by decide +kernel)
theorem dX12_nextToken_353 : decode cX12_nextToken 353 = .ok (.bipush 62, 2) := oc_16 (a := 62) (by decide +kernel)
theorem dX12_nextToken_355 : decode cX12_nextToken 355 = .ok (.if_icmp .ne 41, 3) := oc_160 (a := 0) (b := 41) (by decide +kernel)
theorem dX12_nextToken_392 : decode cX12_nextToken 392 = .ok (.iconst 5, 1) := oc_8 (by decide +kernel)
theorem dX12_nextToken_335 : decode cX12_nextToken 335 = .ok (.ifCond .eq 7, 3) := oc_153 (a := 0) (b := 7) (by decide +kernel)
theorem dX12_nextToken_342 : decode cX12_nextToken 342 = .ok (.iconst 3, 1) := oc_6 (by decide +kernel)
theorem dX12_nextToken_338 : decode cX12_nextToken 338 = .ok (.iload_n 1, 1) := oc_27 (by decide +kernel)
theorem dX12_nextToken_339 : decode cX12_nextToken 339 = .ok (.goto 4, 3) := oc_167 (a := 0) (b := 4) (by decide +kernel)
theorem dX12_nextToken_327 : decode cX12_nextToken 327 = .ok (.iconst 1, 1) := oc_4 (by decide +kernel)
theorem dX12_nextToken_328 : decode cX12_nextToken 328 = .ok (.goto 4, 3) := oc_167 (a := 0) (b := 4) (by decide +kernel)
theorem dX12_nextToken_258 : decode cX12_nextToken 258 = .ok (.if_icmp .eq 69, 3) := oc_159 (a := 0) (b := 69) (by decide +kernel)
theorem dX12_nextToken_261 : decode cX12_nextToken 261 = .ok (.iload_n 1, 1) := oc_27 (by decide +kernel)
theorem dX12_nextToken_262 : decode cX12_nextToken 262 = .ok (.bipush 62, 2) := oc_16 (a := 62) (by decide +kernel)
theorem dX12_nextToken_264 : decode cX12_nextToken 264 = .ok (.if_icmp .eq 63, 3) := oc_159 (a := 0) (b := 63) (by decide +kernel)
theorem dX12_nextToken_267 : decode cX12_nextToken 267 = .ok (.iload_n 1, 1) := oc_27 (by decide +kernel)
theorem dX12_nextToken_268 : decode cX12_nextToken 268 = .ok (.bipush 61, 2) := oc_16 (a := 61) (by decide +kernel)
theorem dX12_nextToken_270 : decode cX12_nextToken 270 = .ok (.if_icmp .eq 57, 3) := oc_159 (a := 0) (b := 57) (by decide +kernel)
theorem dX12_nextToken_273 : decode cX12_nextToken 273 = .ok (.iload_n 1, 1) := oc_27 (by decide +kernel)
theorem dX12_nextToken_274 : decode cX12_nextToken 274 = .ok (.bipush 35, 2) := oc_16 (a := 35) (by decide +kernel)
theorem dX12_nextToken_276 : decode cX12_nextToken 276 = .ok (.if_icmp .eq 51, 3) := oc_159 (a := 0) (b := 51) (by decide +kernel)
theorem dX12_nextToken_279 : decode cX12_nextToken 279 = .ok (.iload_n 1, 1) := oc_27 (by decide +kernel)
theorem dX12_nextToken_280 : decode cX12_nextToken 280 = .ok (.bipush 43, 2) := oc_16 (a := 43) (by decide +kernel)
theorem dX12_nextToken_282 : decode cX12_nextToken 282 = .ok (.if_icmp .eq 45, 3) := oc_159 (a := 0) (b := 45) (by decide +kernel)
theorem dX12_nextToken_285 : decode cX12_nextToken 285 = .ok (.iload_n 1, 1) := oc_27 (by decide +kernel)
theorem dX12_nextToken_286 : decode cX12_nextToken 286 = .ok (.bipush 45, 2) := oc_16 (a := 45) (by decide +kernel)
theorem dX12_nextToken_288 : decode cX12_nextToken 288 = .ok (.if_icmp .eq 39, 3) := oc_159 (a := 0) (b := 39) (by decide +kernel)
theorem dX12_nextToken_291 : decode cX12_nextToken 291 = .ok (.iload_n 1, 1) := oc_27 (by decide +kernel)
theorem dX12_nextToken_292 : decode cX12_nextToken 292 = .ok (.bipush 42, 2) := oc_16 (a := 42) (by decide +kernel)
theorem dX12_nextToken_294 : decode cX12_nextToken 294 = .ok (.if_icmp .eq 33, 3) := oc_159 (a := 0) (b := 33) (by decide +kernel)
theorem dX12_nextToken_297 : decode cX12_nextToken 297 = .ok (.iload_n 1, 1) := oc_27 (by decide +kernel)
theorem dX12_nextToken_298 : decode cX12_nextToken 298 = .ok (.bipush 47, 2) := oc_16 (a := 47) (by decide +kernel)
theorem dX12_nextToken_300 : decode cX12_nextToken 300 = .ok (.if_icmp .eq 27, 3) := oc_159 (a := 0) (b := 27) (by decide +kernel)
theorem dX12_nextToken_303 : decode cX12_nextToken 303 = .ok (.iload_n 1, 1) := oc_27 (by decide +kernel)
theorem dX12_nextToken_304 : decode cX12_nextToken 304 = .ok (.bipush 40, 2) := oc_16 (a := 40) (by decide +kernel)
theorem dX12_nextToken_306 : decode cX12_nextToken 306 = .ok (.if_icmp .eq 21, 3) := oc_159 (a := 0) (b := 21) (by decide +kernel)
theorem dX12_nextToken_309 : decode cX12_nextToken 309 = .ok (.iload_n 1, 1) := oc_27 (by decide +kernel)
theorem dX12_nextToken_310 : decode cX12_nextToken 310 = .ok (.bipush 41, 2) := oc_16 (a := 41) (by decide +kernel)
theorem dX12_nextToken_312 : decode cX12_nextToken 312 = .ok (.if_icmp .eq 15, 3) := oc_159 (a := 0) (b := 15) (by decide +kernel)
theorem dX12_nextToken_315 : decode cX12_nextToken 315 = .ok (.iload_n 1, 1) := oc_27 (by decide +kernel)
theorem dX12_nextToken_316 : decode cX12_nextToken 316 = .ok (.bipush 44, 2) := oc_16 (a := 44) (by decide +kernel)
theorem dX12_nextToken_318 : decode cX12_nextToken 318 = .ok (.if_icmp .eq 9, 3) := oc_159 (a := 0) (b := 9) (by decide +kernel)
theorem dX12_nextToken_321 : decode cX12_nextToken 321 = .ok (.iload_n 1, 1) := oc_27 (by decide +kernel)
theorem dX12_nextToken_322 : decode cX12_nextToken 322 = .ok (.bipush 59, 2) := oc_16 (a := 59) (by decide +kernel)
theorem dX12_nextToken_324 : decode cX12_nextToken 324 = .ok (.if_icmp .ne 7, 3) := oc_160 (a := 0) (b := 7) (by decide +kernel)
theorem dX12_nextToken_331 : decode cX12_nextToken 331 = .ok (.iconst 0, 1) := oc_3 (by decide +kernel)
theorem dX12_nextToken_151 : decode cX12_nextToken 151 = .ok (.aload_n 0, 1) := oc_42 (by decide +kernel)
theorem dX12_nextToken_152 : decode cX12_nextToken 152 = .ok (.iconst 2, 1) := oc_5 (by decide +kernel)
theorem dX12_nextToken_153 : decode cX12_nextToken 153 = .ok (.putfield 143, 3) := oc_181 (a := 0) (b := 143) (by decide +kernel)
theorem dX12_nextToken_156 : decode cX12_nextToken 156 = .ok (.aload_n 0, 1) := oc_42 (by decide +kernel)
theorem dX12_nextToken_157 : decode cX12_nextToken 157 = .ok (.lconst 0, 1) := oc_9 (by decide +kernel)
theorem tw_838 : Cond.fieldLink RX12 156 "RingsUnderModel" "word" "J" ∈ wsL_law := sg_35 _ (List.mem_of_getElem? (i := 22) rfl)
theorem dX12_nextToken_158 : decode cX12_nextToken 158 = .ok (.putfield 156, 3) := oc_181 (a := 0) (b := 156) (by decide +kernel)
theorem dX12_nextToken_161 : decode cX12_nextToken 161 = .ok (.aload_n 0, 1) := oc_42 (by decide +kernel)
theorem dX12_nextToken_162 : decode cX12_nextToken 162 = .ok (.aload_n 0, 1) := oc_42 (by decide +kernel)
theorem dX12_nextToken_163 : decode cX12_nextToken 163 = .ok (.getfield 134, 3) := oc_180 (a := 0) (b := 134) (by decide +kernel)
theorem dX12_nextToken_166 : decode cX12_nextToken 166 = .ok (.invokevirtual 137, 3) := oc_182 (a := 0) (b := 137) (by decide +kernel)
theorem dX12_nextToken_169 : decode cX12_nextToken 169 = .ok (.invokestatic 153, 3) := oc_184 (a := 0) (b := 153) (by decide +kernel)
theorem dX12_nextToken_172 : decode cX12_nextToken 172 = .ok (.ifCond .eq 51, 3) := oc_153 (a := 0) (b := 51) (by decide +kernel)
theorem dX12_nextToken_223 : decode cX12_nextToken 223 = .ok (.aload_n 0, 1) := oc_42 (by decide +kernel)
theorem dX12_nextToken_224 : decode cX12_nextToken 224 = .ok (.getfield 134, 3) := oc_180 (a := 0) (b := 134) (by decide +kernel)
theorem dX12_nextToken_227 : decode cX12_nextToken 227 = .ok (.aload_n 0, 1) := oc_42 (by decide +kernel)
theorem dX12_nextToken_228 : decode cX12_nextToken 228 = .ok (.getfield 140, 3) := oc_180 (a := 0) (b := 140) (by decide +kernel)
theorem dX12_nextToken_231 : decode cX12_nextToken 231 = .ok (.isub, 1) := oc_100 (by decide +kernel)
theorem dX12_nextToken_232 : decode cX12_nextToken 232 = .ok (.bipush 7, 2) := oc_16 (a := 7) (by decide +kernel)
theorem dX12_nextToken_234 : decode cX12_nextToken 234 = .ok (.if_icmp .le 162, 3) := oc_164 (a := 0) (b := 162) (by decide +kernel)
theorem dX12_nextToken_237 : decode cX12_nextToken 237 = .ok (.aload_n 0, 1) := oc_42 (by decide +kernel)
theorem dX12_nextToken_238 : decode cX12_nextToken 238 = .ok (.lconst 0, 1) := oc_9 (by decide +kernel)
theorem dX12_nextToken_239 : decode cX12_nextToken 239 = .ok (.putfield 156, 3) := oc_181 (a := 0) (b := 156) (by decide +kernel)
theorem dX12_nextToken_242 : decode cX12_nextToken 242 = .ok (.goto 154, 3) := oc_167 (a := 0) (b := 154) (by decide +kernel)
theorem dX12_nextToken_175 : decode cX12_nextToken 175 = .ok (.aload_n 0, 1) := oc_42 (by decide +kernel)
theorem dX12_nextToken_176 : decode cX12_nextToken 176 = .ok (.getfield 134, 3) := oc_180 (a := 0) (b := 134) (by decide +kernel)
theorem dX12_nextToken_179 : decode cX12_nextToken 179 = .ok (.aload_n 0, 1) := oc_42 (by decide +kernel)
theorem dX12_nextToken_180 : decode cX12_nextToken 180 = .ok (.getfield 140, 3) := oc_180 (a := 0) (b := 140) (by decide +kernel)
theorem dX12_nextToken_183 : decode cX12_nextToken 183 = .ok (.isub, 1) := oc_100 (by decide +kernel)
theorem dX12_nextToken_184 : decode cX12_nextToken 184 = .ok (.bipush 7, 2) := oc_16 (a := 7) (by decide +kernel)
theorem dX12_nextToken_186 : decode cX12_nextToken 186 = .ok (.if_icmp .ge 24, 3) := oc_162 (a := 0) (b := 24) (by decide +kernel)
theorem dX12_nextToken_210 : decode cX12_nextToken 210 = .ok (.aload_n 0, 1) := oc_42 (by decide +kernel)
theorem dX12_nextToken_211 : decode cX12_nextToken 211 = .ok (.dup, 1) := oc_89 (by decide +kernel)
theorem dX12_nextToken_212 : decode cX12_nextToken 212 = .ok (.getfield 134, 3) := oc_180 (a := 0) (b := 134) (by decide +kernel)
theorem dX12_nextToken_215 : decode cX12_nextToken 215 = .ok (.iconst 1, 1) := oc_4 (by decide +kernel)
theorem dX12_nextToken_216 : decode cX12_nextToken 216 = .ok (.iadd, 1) := oc_96 (by decide +kernel)
theorem dX12_nextToken_217 : decode cX12_nextToken 217 = .ok (.putfield 134, 3) := oc_181 (a := 0) (b := 134) (by decide +kernel)
theorem dX12_nextToken_220 : decode cX12_nextToken 220 = .ok (.goto (-59), 3) := oc_167 (a := 255) (b := 197) (by decide +kernel)
theorem dX12_nextToken_189 : decode cX12_nextToken 189 = .ok (.aload_n 0, 1) := oc_42 (by decide +kernel)
theorem dX12_nextToken_190 : decode cX12_nextToken 190 = .ok (.aload_n 0, 1) := oc_42 (by decide +kernel)
theorem dX12_nextToken_191 : decode cX12_nextToken 191 = .ok (.getfield 156, 3) := oc_180 (a := 0) (b := 156) (by decide +kernel)
theorem dX12_nextToken_194 : decode cX12_nextToken 194 = .ok (.bipush 8, 2) := oc_16 (a := 8) (by decide +kernel)
theorem dX12_nextToken_196 : decode cX12_nextToken 196 = .ok (.lshl, 1) := oc_121 (by decide +kernel)
theorem dX12_nextToken_197 : decode cX12_nextToken 197 = .ok (.aload_n 0, 1) := oc_42 (by decide +kernel)
theorem dX12_nextToken_198 : decode cX12_nextToken 198 = .ok (.aload_n 0, 1) := oc_42 (by decide +kernel)
theorem dX12_nextToken_199 : decode cX12_nextToken 199 = .ok (.getfield 134, 3) := oc_180 (a := 0) (b := 134) (by decide +kernel)
theorem dX12_nextToken_202 : decode cX12_nextToken 202 = .ok (.invokevirtual 137, 3) := oc_182 (a := 0) (b := 137) (by decide +kernel)
theorem dX12_nextToken_205 : decode cX12_nextToken 205 = .ok (.i2l, 1) := oc_133 (by decide +kernel)
theorem dX12_nextToken_206 : decode cX12_nextToken 206 = .ok (.lor, 1) := oc_129 (by decide +kernel)
theorem dX12_nextToken_207 : decode cX12_nextToken 207 = .ok (.putfield 156, 3) := oc_181 (a := 0) (b := 156) (by decide +kernel)
theorem dX12_nextToken_75 : decode cX12_nextToken 75 = .ok (.aload_n 0, 1) := oc_42 (by decide +kernel)
theorem dX12_nextToken_76 : decode cX12_nextToken 76 = .ok (.iconst 1, 1) := oc_4 (by decide +kernel)
theorem dX12_nextToken_77 : decode cX12_nextToken 77 = .ok (.putfield 143, 3) := oc_181 (a := 0) (b := 143) (by decide +kernel)
theorem dX12_nextToken_80 : decode cX12_nextToken 80 = .ok (.aload_n 0, 1) := oc_42 (by decide +kernel)
theorem dX12_nextToken_81 : decode cX12_nextToken 81 = .ok (.iconst 0, 1) := oc_3 (by decide +kernel)
theorem tw_836 : Cond.fieldLink RX12 149 "RingsUnderModel" "number" "I" ∈ wsL_law := sg_35 _ (List.mem_of_getElem? (i := 20) rfl)
theorem dX12_nextToken_82 : decode cX12_nextToken 82 = .ok (.putfield 149, 3) := oc_181 (a := 0) (b := 149) (by decide +kernel)
theorem dX12_nextToken_85 : decode cX12_nextToken 85 = .ok (.aload_n 0, 1) := oc_42 (by decide +kernel)
theorem dX12_nextToken_86 : decode cX12_nextToken 86 = .ok (.aload_n 0, 1) := oc_42 (by decide +kernel)
theorem dX12_nextToken_87 : decode cX12_nextToken 87 = .ok (.getfield 134, 3) := oc_180 (a := 0) (b := 134) (by decide +kernel)
theorem dX12_nextToken_90 : decode cX12_nextToken 90 = .ok (.invokevirtual 137, 3) := oc_182 (a := 0) (b := 137) (by decide +kernel)
theorem dX12_nextToken_93 : decode cX12_nextToken 93 = .ok (.invokestatic 146, 3) := oc_184 (a := 0) (b := 146) (by decide +kernel)
theorem dX12_nextToken_96 : decode cX12_nextToken 96 = .ok (.ifCond .eq 300, 3) := oc_153 (a := 1) (b := 44) (by decide +kernel)
theorem dX12_nextToken_99 : decode cX12_nextToken 99 = .ok (.aload_n 0, 1) := oc_42 (by decide +kernel)
theorem dX12_nextToken_100 : decode cX12_nextToken 100 = .ok (.getfield 149, 3) := oc_180 (a := 0) (b := 149) (by decide +kernel)
theorem tw_837 : Cond.constant RX12 152 (100000) ∈ wsL_law := sg_35 _ (List.mem_of_getElem? (i := 21) rfl)
theorem dX12_nextToken_103 : decode cX12_nextToken 103 = .ok (.ldc 152, 2) := oc_18 (by decide +kernel)
theorem dX12_nextToken_105 : decode cX12_nextToken 105 = .ok (.if_icmp .ge 26, 3) := oc_162 (a := 0) (b := 26) (by decide +kernel)
theorem dX12_nextToken_131 : decode cX12_nextToken 131 = .ok (.aload_n 0, 1) := oc_42 (by decide +kernel)
theorem dX12_nextToken_132 : decode cX12_nextToken 132 = .ok (.dup, 1) := oc_89 (by decide +kernel)
theorem dX12_nextToken_133 : decode cX12_nextToken 133 = .ok (.getfield 134, 3) := oc_180 (a := 0) (b := 134) (by decide +kernel)
theorem dX12_nextToken_136 : decode cX12_nextToken 136 = .ok (.iconst 1, 1) := oc_4 (by decide +kernel)
theorem dX12_nextToken_137 : decode cX12_nextToken 137 = .ok (.iadd, 1) := oc_96 (by decide +kernel)
theorem dX12_nextToken_138 : decode cX12_nextToken 138 = .ok (.putfield 134, 3) := oc_181 (a := 0) (b := 134) (by decide +kernel)
theorem dX12_nextToken_141 : decode cX12_nextToken 141 = .ok (.goto (-56), 3) := oc_167 (a := 255) (b := 200) (by decide +kernel)
theorem dX12_nextToken_108 : decode cX12_nextToken 108 = .ok (.aload_n 0, 1) := oc_42 (by decide +kernel)
theorem dX12_nextToken_109 : decode cX12_nextToken 109 = .ok (.bipush 10, 2) := oc_16 (a := 10) (by decide +kernel)
theorem dX12_nextToken_111 : decode cX12_nextToken 111 = .ok (.aload_n 0, 1) := oc_42 (by decide +kernel)
theorem dX12_nextToken_112 : decode cX12_nextToken 112 = .ok (.getfield 149, 3) := oc_180 (a := 0) (b := 149) (by decide +kernel)
theorem dX12_nextToken_115 : decode cX12_nextToken 115 = .ok (.imul, 1) := oc_104 (by decide +kernel)
theorem dX12_nextToken_116 : decode cX12_nextToken 116 = .ok (.aload_n 0, 1) := oc_42 (by decide +kernel)
theorem dX12_nextToken_117 : decode cX12_nextToken 117 = .ok (.aload_n 0, 1) := oc_42 (by decide +kernel)
theorem dX12_nextToken_118 : decode cX12_nextToken 118 = .ok (.getfield 134, 3) := oc_180 (a := 0) (b := 134) (by decide +kernel)
theorem dX12_nextToken_121 : decode cX12_nextToken 121 = .ok (.invokevirtual 137, 3) := oc_182 (a := 0) (b := 137) (by decide +kernel)
theorem dX12_nextToken_124 : decode cX12_nextToken 124 = .ok (.iadd, 1) := oc_96 (by decide +kernel)
theorem dX12_nextToken_125 : decode cX12_nextToken 125 = .ok (.bipush 48, 2) := oc_16 (a := 48) (by decide +kernel)
theorem dX12_nextToken_127 : decode cX12_nextToken 127 = .ok (.isub, 1) := oc_100 (by decide +kernel)
theorem dX12_nextToken_128 : decode cX12_nextToken 128 = .ok (.putfield 149, 3) := oc_181 (a := 0) (b := 149) (by decide +kernel)
theorem dX12_nextToken_60 : decode cX12_nextToken 60 = .ok (.aload_n 0, 1) := oc_42 (by decide +kernel)
theorem dX12_nextToken_61 : decode cX12_nextToken 61 = .ok (.iconst 0, 1) := oc_3 (by decide +kernel)
theorem dX12_nextToken_62 : decode cX12_nextToken 62 = .ok (.putfield 143, 3) := oc_181 (a := 0) (b := 143) (by decide +kernel)
theorem dX12_nextToken_65 : decode cX12_nextToken 65 = .ok (.goto 331, 3) := oc_167 (a := 1) (b := 75) (by decide +kernel)
set_option maxHeartbeats 4000000 in
set_option maxRecDepth 100000 in
theorem s_X12_w3_x (l : Launch) (D : va_G) (t : pq_T) (σ : pq_S) (I : Nat → Nat → Int32) (J : Nat → Nat → Int64) (ri : Nat → Nat → Int32) (rj : Nat → Nat → Int64) (rq : Nat → Nat → Option Nat) (sz : Nat) (tg : Nat → Nat) (hSH : SH σ tg) (hG0 : GT tg I ri) (a0 : Int32) (a1 : Int32) (a2 : Int32) : MetL l yX12_w3 (wa yX12_w3 cX12_w3 3 (some .long)) ({ frames := 0, cells := 0, slots := 0, locals := 0 }) [.int a0, .int a1, .int a2] D t σ (I, J, ri, rj, rq) sz 0 0 (fun (r : Int64) (u : pq_S × pq_M) => u = (σ, I, J, ri, rj, rq)) := by
  refine Met.ofW (cc := cX12_w3) (maxL := 3) (ret := (some .long)) (by decide) rfl ?_
  intro p e s m args below meth c s₁ B hml hv
  obtain ⟨rfl, hsz, hP, hK, hD0, hN⟩ := hv
  have hx := B.exec
  have hb := B.bytes
  have hr := B.returns
  have hts := atoms_spec (ws := (wa yX12_w3 cX12_w3 3 (some .long))) B.pre
  have hown : s.vm.findClass RX12 = some m.cls := findClass_of_methodNamed B.named
  have hlocks := B.notSynchronized
  subst hsz
  have hD : va_D (pq_B t σ (I, J, ri, rj, rq) s.heap.size) (pq_P t σ (I, J, ri, rj, rq)) := hD0.self
  generalize hAe : pq_B t σ (I, J, ri, rj, rq) s.heap.size = A at hD ⊢
  have hA : ∀ q : Nat, s.heap.size ≤ q → A q := fun q h => by rw [← hAe]; exact Or.inr h
  have hS : va_S A s.heap s.heap [] := va_S.rf
  have hG : GM [] tg σ I ri I ri rq := ⟨hG0, fun _ _ _ => rfl, fun _ _ _ _ _ => rfl, fun _ _ _ _ _ _ => rfl⟩
  have hl := lv_entry ([.int a0, .int a1, .int a2]) (n := 3) (Nat.le_of_ble_eq_true rfl)
  rw [lg_entry_eq]
  generalize (lg_sl ([.int a0, .int a1, .int a2]) ++ List.replicate (3 - (lg_sl ([.int a0, .int a1, .int a2])).length) Slot.unset).toArray = ls at hl ⊢
  have hl : lv_has ls 3 [(0, .int a0), (1, .int a1), (2, .int a2)] := hl
  refine q_gen (fun Q hQ => ?_)
  have go : ∀ (H : Heap) (locs : List Loc) (ls : Array Slot), va_P D vwCl (pq_P t σ (I, J, ri, rj, rq)) H → va_D A (pq_P t σ (I, J, ri, rj, rq)) → va_S A s.heap H locs → lv_has ls 3 [(0, .int a0), (1, .int a1), (2, .int a2)] → W p l e ({ frames := 0, cells := 0, slots := 0, locals := 0 } : Room) s m (List.toArray ([.int a0, .int a1, .int a2] : List Value)) below meth c H locs 0 0 Q (F0 m 0 ls []) := by
    intro H locs ls hP hD hS hl
    refine lv_iload_n hx hb dX12_w3_0 rfl (lv_at hl 0 rfl) ?_
    refine lv_i2l hx hb dX12_w3_1 rfl ?_
    refine lv_topl (fun x_1 ex_1 => ?_)
    refine lv_bipush (v := 8) hx hb dX12_w3_2 (by decide) ?_
    refine lv_lshl hx hb dX12_w3_4 rfl ?_
    refine lv_topl (fun x_2 ex_2 => ?_)
    refine lv_iload_n hx hb dX12_w3_5 rfl (lv_at hl 1 rfl) ?_
    refine lv_i2l hx hb dX12_w3_6 rfl ?_
    refine lv_topl (fun x_3 ex_3 => ?_)
    refine lv_lor hx hb dX12_w3_7 ?_
    refine lv_topl (fun x_4 ex_4 => ?_)
    refine lv_bipush (v := 8) hx hb dX12_w3_8 (by decide) ?_
    refine lv_lshl hx hb dX12_w3_10 rfl ?_
    refine lv_topl (fun x_5 ex_5 => ?_)
    refine lv_iload_n hx hb dX12_w3_11 rfl (lv_at hl 2 rfl) ?_
    refine lv_i2l hx hb dX12_w3_12 rfl ?_
    refine lv_topl (fun x_6 ex_6 => ?_)
    refine lv_lor hx hb dX12_w3_13 ?_
    refine lv_topl (fun x_7 ex_7 => ?_)
    subst hQ
    exact W.lret (v := x_7) hx hb hr (fun t1 ht hW => ⟨⟨x_7, (σ, I, J, ri, rj, rq), rfl, rfl, by rw [ht]; exact hP, va_K.moved hW.alike hK, hD⟩, hS.F ht⟩) hS.2.2 dX12_w3_14
  exact go _ _ _ hP hD hS hl

set_option maxHeartbeats 4000000 in
set_option maxRecDepth 100000 in
theorem s_X12_w4_x (l : Launch) (D : va_G) (t : pq_T) (σ : pq_S) (I : Nat → Nat → Int32) (J : Nat → Nat → Int64) (ri : Nat → Nat → Int32) (rj : Nat → Nat → Int64) (rq : Nat → Nat → Option Nat) (sz : Nat) (tg : Nat → Nat) (hSH : SH σ tg) (hG0 : GT tg I ri) (a0 : Int32) (a1 : Int32) (a2 : Int32) (a3 : Int32) : MetL l yX12_w4 (wa yX12_w4 cX12_w4 4 (some .long)) ({ frames := 1, cells := 0, slots := 0, locals := 22 }) [.int a0, .int a1, .int a2, .int a3] D t σ (I, J, ri, rj, rq) sz 0 0 (fun (r : Int64) (u : pq_S × pq_M) => u = (σ, I, J, ri, rj, rq)) := by
  refine Met.ofW (cc := cX12_w4) (maxL := 4) (ret := (some .long)) (by decide) rfl ?_
  intro p e s m args below meth c s₁ B hml hv
  obtain ⟨rfl, hsz, hP, hK, hD0, hN⟩ := hv
  have hx := B.exec
  have hb := B.bytes
  have hr := B.returns
  have hts := atoms_spec (ws := (wa yX12_w4 cX12_w4 4 (some .long))) B.pre
  have hown : s.vm.findClass RX12 = some m.cls := findClass_of_methodNamed B.named
  have hlocks := B.notSynchronized
  subst hsz
  have hD : va_D (pq_B t σ (I, J, ri, rj, rq) s.heap.size) (pq_P t σ (I, J, ri, rj, rq)) := hD0.self
  generalize hAe : pq_B t σ (I, J, ri, rj, rq) s.heap.size = A at hD ⊢
  have hA : ∀ q : Nat, s.heap.size ≤ q → A q := fun q h => by rw [← hAe]; exact Or.inr h
  have hS : va_S A s.heap s.heap [] := va_S.rf
  have hG : GM [] tg σ I ri I ri rq := ⟨hG0, fun _ _ _ => rfl, fun _ _ _ _ _ => rfl, fun _ _ _ _ _ _ => rfl⟩
  have hl := lv_entry ([.int a0, .int a1, .int a2, .int a3]) (n := 4) (Nat.le_of_ble_eq_true rfl)
  rw [lg_entry_eq]
  generalize (lg_sl ([.int a0, .int a1, .int a2, .int a3]) ++ List.replicate (4 - (lg_sl ([.int a0, .int a1, .int a2, .int a3])).length) Slot.unset).toArray = ls at hl ⊢
  have hl : lv_has ls 4 [(0, .int a0), (1, .int a1), (2, .int a2), (3, .int a3)] := hl
  refine q_gen (fun Q hQ => ?_)
  have go : ∀ (H : Heap) (locs : List Loc) (ls : Array Slot), va_P D vwCl (pq_P t σ (I, J, ri, rj, rq)) H → va_D A (pq_P t σ (I, J, ri, rj, rq)) → va_S A s.heap H locs → lv_has ls 4 [(0, .int a0), (1, .int a1), (2, .int a2), (3, .int a3)] → W p l e ({ frames := 1, cells := 0, slots := 0, locals := 22 } : Room) s m (List.toArray ([.int a0, .int a1, .int a2, .int a3] : List Value)) below meth c H locs 0 0 Q (F0 m 0 ls []) := by
    intro H locs ls hP hD hS hl
    refine lv_iload_n hx hb dX12_w4_0 rfl (lv_at hl 0 rfl) ?_
    refine lv_iload_n hx hb dX12_w4_1 rfl (lv_at hl 1 rfl) ?_
    refine lv_iload_n hx hb dX12_w4_2 rfl (lv_at hl 2 rfl) ?_
    refine pk_l (va_runS (As := [.int a0, .int a1, .int a2]) (rest := []) ⟨hx, hb, hml, hown, hts⟩ (s_X12_w3_x l D t σ I J ri rj rq H.size tg hSH hG.1 a0 a1 a2) (va_cwS 3 hts (tw_S tw_864 tw_865 tw_5 tw_866) rfl rfl rfl cd_yX12_w3_3 ⟨Nat.le_of_ble_eq_true rfl, Nat.le_of_ble_eq_true rfl⟩) ⟨pq_blind, pq_pre hK hN hP hD⟩ rfl rfl hl.1 rfl (lv_room (Nat.le_of_ble_eq_true rfl)) dX12_w4_3 ⟨Nat.le_of_ble_eq_true rfl, Nat.le_of_ble_eq_true rfl⟩) hD hS hA (fun x_1 σ1 μ1 H locs hw_2 hP hD hS => ?_)
    have hu_3 := hw_2
    obtain ⟨hu_3a, hu_3b⟩ := Prod.mk.inj hu_3
    rw [hu_3a, hu_3b] at hP hD
    refine lv_bipush (v := 8) hx hb dX12_w4_6 (by decide) ?_
    refine lv_lshl hx hb dX12_w4_8 rfl ?_
    refine lv_topl (fun x_6 ex_6 => ?_)
    refine lv_iload_n hx hb dX12_w4_9 rfl (lv_at hl 3 rfl) ?_
    refine lv_i2l hx hb dX12_w4_10 rfl ?_
    refine lv_topl (fun x_7 ex_7 => ?_)
    refine lv_lor hx hb dX12_w4_11 ?_
    refine lv_topl (fun x_8 ex_8 => ?_)
    subst hQ
    exact W.lret (v := x_8) hx hb hr (fun t1 ht hW => ⟨⟨x_8, (σ, I, J, ri, rj, rq), rfl, rfl, by rw [ht]; exact hP, va_K.moved hW.alike hK, hD⟩, hS.F ht⟩) hS.2.2 dX12_w4_12
  exact go _ _ _ hP hD hS hl

set_option maxHeartbeats 4000000 in
set_option maxRecDepth 100000 in
theorem s_X12_w5_x (l : Launch) (D : va_G) (t : pq_T) (σ : pq_S) (I : Nat → Nat → Int32) (J : Nat → Nat → Int64) (ri : Nat → Nat → Int32) (rj : Nat → Nat → Int64) (rq : Nat → Nat → Option Nat) (sz : Nat) (tg : Nat → Nat) (hSH : SH σ tg) (hG0 : GT tg I ri) (a0 : Int32) (a1 : Int32) (a2 : Int32) (a3 : Int32) (a4 : Int32) : MetL l yX12_w5 (wa yX12_w5 cX12_w5 5 (some .long)) ({ frames := 2, cells := 0, slots := 0, locals := 45 }) [.int a0, .int a1, .int a2, .int a3, .int a4] D t σ (I, J, ri, rj, rq) sz 0 0 (fun (r : Int64) (u : pq_S × pq_M) => u = (σ, I, J, ri, rj, rq)) := by
  refine Met.ofW (cc := cX12_w5) (maxL := 5) (ret := (some .long)) (by decide) rfl ?_
  intro p e s m args below meth c s₁ B hml hv
  obtain ⟨rfl, hsz, hP, hK, hD0, hN⟩ := hv
  have hx := B.exec
  have hb := B.bytes
  have hr := B.returns
  have hts := atoms_spec (ws := (wa yX12_w5 cX12_w5 5 (some .long))) B.pre
  have hown : s.vm.findClass RX12 = some m.cls := findClass_of_methodNamed B.named
  have hlocks := B.notSynchronized
  subst hsz
  have hD : va_D (pq_B t σ (I, J, ri, rj, rq) s.heap.size) (pq_P t σ (I, J, ri, rj, rq)) := hD0.self
  generalize hAe : pq_B t σ (I, J, ri, rj, rq) s.heap.size = A at hD ⊢
  have hA : ∀ q : Nat, s.heap.size ≤ q → A q := fun q h => by rw [← hAe]; exact Or.inr h
  have hS : va_S A s.heap s.heap [] := va_S.rf
  have hG : GM [] tg σ I ri I ri rq := ⟨hG0, fun _ _ _ => rfl, fun _ _ _ _ _ => rfl, fun _ _ _ _ _ _ => rfl⟩
  have hl := lv_entry ([.int a0, .int a1, .int a2, .int a3, .int a4]) (n := 5) (Nat.le_of_ble_eq_true rfl)
  rw [lg_entry_eq]
  generalize (lg_sl ([.int a0, .int a1, .int a2, .int a3, .int a4]) ++ List.replicate (5 - (lg_sl ([.int a0, .int a1, .int a2, .int a3, .int a4])).length) Slot.unset).toArray = ls at hl ⊢
  have hl : lv_has ls 5 [(0, .int a0), (1, .int a1), (2, .int a2), (3, .int a3), (4, .int a4)] := hl
  refine q_gen (fun Q hQ => ?_)
  have go : ∀ (H : Heap) (locs : List Loc) (ls : Array Slot), va_P D vwCl (pq_P t σ (I, J, ri, rj, rq)) H → va_D A (pq_P t σ (I, J, ri, rj, rq)) → va_S A s.heap H locs → lv_has ls 5 [(0, .int a0), (1, .int a1), (2, .int a2), (3, .int a3), (4, .int a4)] → W p l e ({ frames := 2, cells := 0, slots := 0, locals := 45 } : Room) s m (List.toArray ([.int a0, .int a1, .int a2, .int a3, .int a4] : List Value)) below meth c H locs 0 0 Q (F0 m 0 ls []) := by
    intro H locs ls hP hD hS hl
    refine lv_iload_n hx hb dX12_w5_0 rfl (lv_at hl 0 rfl) ?_
    refine lv_iload_n hx hb dX12_w5_1 rfl (lv_at hl 1 rfl) ?_
    refine lv_iload_n hx hb dX12_w5_2 rfl (lv_at hl 2 rfl) ?_
    refine lv_iload_n hx hb dX12_w5_3 rfl (lv_at hl 3 rfl) ?_
    refine pk_l (va_runS (As := [.int a0, .int a1, .int a2, .int a3]) (rest := []) ⟨hx, hb, hml, hown, hts⟩ (s_X12_w4_x l D t σ I J ri rj rq H.size tg hSH hG.1 a0 a1 a2 a3) (va_cwS 4 hts (tw_S tw_861 tw_862 tw_5 tw_863) rfl rfl rfl cd_yX12_w4_4 ⟨Nat.le_of_ble_eq_true rfl, Nat.le_of_ble_eq_true rfl⟩) ⟨pq_blind, pq_pre hK hN hP hD⟩ rfl rfl hl.1 rfl (lv_room (Nat.le_of_ble_eq_true rfl)) dX12_w5_4 ⟨Nat.le_of_ble_eq_true rfl, Nat.le_of_ble_eq_true rfl⟩) hD hS hA (fun x_1 σ1 μ1 H locs hw_2 hP hD hS => ?_)
    have hu_3 := hw_2
    obtain ⟨hu_3a, hu_3b⟩ := Prod.mk.inj hu_3
    rw [hu_3a, hu_3b] at hP hD
    refine lv_bipush (v := 8) hx hb dX12_w5_7 (by decide) ?_
    refine lv_lshl hx hb dX12_w5_9 rfl ?_
    refine lv_topl (fun x_6 ex_6 => ?_)
    refine lv_iload hx hb dX12_w5_10 (lv_at hl 4 rfl) ?_
    refine lv_i2l hx hb dX12_w5_12 rfl ?_
    refine lv_topl (fun x_7 ex_7 => ?_)
    refine lv_lor hx hb dX12_w5_13 ?_
    refine lv_topl (fun x_8 ex_8 => ?_)
    subst hQ
    exact W.lret (v := x_8) hx hb hr (fun t1 ht hW => ⟨⟨x_8, (σ, I, J, ri, rj, rq), rfl, rfl, by rw [ht]; exact hP, va_K.moved hW.alike hK, hD⟩, hS.F ht⟩) hS.2.2 dX12_w5_14
  exact go _ _ _ hP hD hS hl

set_option maxHeartbeats 4000000 in
set_option maxRecDepth 100000 in
theorem s_X12_w6_x (l : Launch) (D : va_G) (t : pq_T) (σ : pq_S) (I : Nat → Nat → Int32) (J : Nat → Nat → Int64) (ri : Nat → Nat → Int32) (rj : Nat → Nat → Int64) (rq : Nat → Nat → Option Nat) (sz : Nat) (tg : Nat → Nat) (hSH : SH σ tg) (hG0 : GT tg I ri) (a0 : Int32) (a1 : Int32) (a2 : Int32) (a3 : Int32) (a4 : Int32) (a5 : Int32) : MetL l yX12_w6 (wa yX12_w6 cX12_w6 6 (some .long)) ({ frames := 3, cells := 0, slots := 0, locals := 69 }) [.int a0, .int a1, .int a2, .int a3, .int a4, .int a5] D t σ (I, J, ri, rj, rq) sz 0 0 (fun (r : Int64) (u : pq_S × pq_M) => u = (σ, I, J, ri, rj, rq)) := by
  refine Met.ofW (cc := cX12_w6) (maxL := 6) (ret := (some .long)) (by decide) rfl ?_
  intro p e s m args below meth c s₁ B hml hv
  obtain ⟨rfl, hsz, hP, hK, hD0, hN⟩ := hv
  have hx := B.exec
  have hb := B.bytes
  have hr := B.returns
  have hts := atoms_spec (ws := (wa yX12_w6 cX12_w6 6 (some .long))) B.pre
  have hown : s.vm.findClass RX12 = some m.cls := findClass_of_methodNamed B.named
  have hlocks := B.notSynchronized
  subst hsz
  have hD : va_D (pq_B t σ (I, J, ri, rj, rq) s.heap.size) (pq_P t σ (I, J, ri, rj, rq)) := hD0.self
  generalize hAe : pq_B t σ (I, J, ri, rj, rq) s.heap.size = A at hD ⊢
  have hA : ∀ q : Nat, s.heap.size ≤ q → A q := fun q h => by rw [← hAe]; exact Or.inr h
  have hS : va_S A s.heap s.heap [] := va_S.rf
  have hG : GM [] tg σ I ri I ri rq := ⟨hG0, fun _ _ _ => rfl, fun _ _ _ _ _ => rfl, fun _ _ _ _ _ _ => rfl⟩
  have hl := lv_entry ([.int a0, .int a1, .int a2, .int a3, .int a4, .int a5]) (n := 6) (Nat.le_of_ble_eq_true rfl)
  rw [lg_entry_eq]
  generalize (lg_sl ([.int a0, .int a1, .int a2, .int a3, .int a4, .int a5]) ++ List.replicate (6 - (lg_sl ([.int a0, .int a1, .int a2, .int a3, .int a4, .int a5])).length) Slot.unset).toArray = ls at hl ⊢
  have hl : lv_has ls 6 [(0, .int a0), (1, .int a1), (2, .int a2), (3, .int a3), (4, .int a4), (5, .int a5)] := hl
  refine q_gen (fun Q hQ => ?_)
  have go : ∀ (H : Heap) (locs : List Loc) (ls : Array Slot), va_P D vwCl (pq_P t σ (I, J, ri, rj, rq)) H → va_D A (pq_P t σ (I, J, ri, rj, rq)) → va_S A s.heap H locs → lv_has ls 6 [(0, .int a0), (1, .int a1), (2, .int a2), (3, .int a3), (4, .int a4), (5, .int a5)] → W p l e ({ frames := 3, cells := 0, slots := 0, locals := 69 } : Room) s m (List.toArray ([.int a0, .int a1, .int a2, .int a3, .int a4, .int a5] : List Value)) below meth c H locs 0 0 Q (F0 m 0 ls []) := by
    intro H locs ls hP hD hS hl
    refine lv_iload_n hx hb dX12_w6_0 rfl (lv_at hl 0 rfl) ?_
    refine lv_iload_n hx hb dX12_w6_1 rfl (lv_at hl 1 rfl) ?_
    refine lv_iload_n hx hb dX12_w6_2 rfl (lv_at hl 2 rfl) ?_
    refine lv_iload_n hx hb dX12_w6_3 rfl (lv_at hl 3 rfl) ?_
    refine lv_iload hx hb dX12_w6_4 (lv_at hl 4 rfl) ?_
    refine pk_l (va_runS (As := [.int a0, .int a1, .int a2, .int a3, .int a4]) (rest := []) ⟨hx, hb, hml, hown, hts⟩ (s_X12_w5_x l D t σ I J ri rj rq H.size tg hSH hG.1 a0 a1 a2 a3 a4) (va_cwS 5 hts (tw_S tw_858 tw_859 tw_5 tw_860) rfl rfl rfl cd_yX12_w5_5 ⟨Nat.le_of_ble_eq_true rfl, Nat.le_of_ble_eq_true rfl⟩) ⟨pq_blind, pq_pre hK hN hP hD⟩ rfl rfl hl.1 rfl (lv_room (Nat.le_of_ble_eq_true rfl)) dX12_w6_6 ⟨Nat.le_of_ble_eq_true rfl, Nat.le_of_ble_eq_true rfl⟩) hD hS hA (fun x_1 σ1 μ1 H locs hw_2 hP hD hS => ?_)
    have hu_3 := hw_2
    obtain ⟨hu_3a, hu_3b⟩ := Prod.mk.inj hu_3
    rw [hu_3a, hu_3b] at hP hD
    refine lv_bipush (v := 8) hx hb dX12_w6_9 (by decide) ?_
    refine lv_lshl hx hb dX12_w6_11 rfl ?_
    refine lv_topl (fun x_6 ex_6 => ?_)
    refine lv_iload hx hb dX12_w6_12 (lv_at hl 5 rfl) ?_
    refine lv_i2l hx hb dX12_w6_14 rfl ?_
    refine lv_topl (fun x_7 ex_7 => ?_)
    refine lv_lor hx hb dX12_w6_15 ?_
    refine lv_topl (fun x_8 ex_8 => ?_)
    subst hQ
    exact W.lret (v := x_8) hx hb hr (fun t1 ht hW => ⟨⟨x_8, (σ, I, J, ri, rj, rq), rfl, rfl, by rw [ht]; exact hP, va_K.moved hW.alike hK, hD⟩, hS.F ht⟩) hS.2.2 dX12_w6_16
  exact go _ _ _ hP hD hS hl

set_option maxHeartbeats 4000000 in
set_option maxRecDepth 100000 in
theorem s_X12_isIn_x (l : Launch) (D : va_G) (t : pq_T) (σ : pq_S) (I : Nat → Nat → Int32) (J : Nat → Nat → Int64) (ri : Nat → Nat → Int32) (rj : Nat → Nat → Int64) (rq : Nat → Nat → Option Nat) (sz : Nat) (tg : Nat → Nat) (hSH : SH σ tg) (hG0 : GT tg I ri) (a0 : Int32) (a1 : Int32) (a2 : Int32) : MetI l yX12_isIn (wa yX12_isIn cX12_isIn 3 (some .boolean)) ({ frames := 0, cells := 0, slots := 0, locals := 0 }) [.int a0, .int a1, .int a2] D t σ (I, J, ri, rj, rq) sz 0 0 (fun (r : Int32) (u : pq_S × pq_M) => u = (σ, I, J, ri, rj, rq) ∧ ((r = 1 ∧ a1 ≤ a0 ∧ a0 ≤ a2) ∨ (r = 0 ∧ (a0.toInt < a1.toInt ∨ a2.toInt < a0.toInt)))) := by
  refine Met.ofW (cc := cX12_isIn) (maxL := 3) (ret := (some .boolean)) (by decide) rfl ?_
  intro p e s m args below meth c s₁ B hml hv
  obtain ⟨rfl, hsz, hP, hK, hD0, hN⟩ := hv
  have hx := B.exec
  have hb := B.bytes
  have hr := B.returns
  have hts := atoms_spec (ws := (wa yX12_isIn cX12_isIn 3 (some .boolean))) B.pre
  have hown : s.vm.findClass RX12 = some m.cls := findClass_of_methodNamed B.named
  have hlocks := B.notSynchronized
  subst hsz
  have hD : va_D (pq_B t σ (I, J, ri, rj, rq) s.heap.size) (pq_P t σ (I, J, ri, rj, rq)) := hD0.self
  generalize hAe : pq_B t σ (I, J, ri, rj, rq) s.heap.size = A at hD ⊢
  have hA : ∀ q : Nat, s.heap.size ≤ q → A q := fun q h => by rw [← hAe]; exact Or.inr h
  have hS : va_S A s.heap s.heap [] := va_S.rf
  have hG : GM [] tg σ I ri I ri rq := ⟨hG0, fun _ _ _ => rfl, fun _ _ _ _ _ => rfl, fun _ _ _ _ _ _ => rfl⟩
  have hl := lv_entry ([.int a0, .int a1, .int a2]) (n := 3) (Nat.le_of_ble_eq_true rfl)
  rw [lg_entry_eq]
  generalize (lg_sl ([.int a0, .int a1, .int a2]) ++ List.replicate (3 - (lg_sl ([.int a0, .int a1, .int a2])).length) Slot.unset).toArray = ls at hl ⊢
  have hl : lv_has ls 3 [(0, .int a0), (1, .int a1), (2, .int a2)] := hl
  refine q_gen (fun Q hQ => ?_)
  have go : ∀ (H : Heap) (locs : List Loc) (ls : Array Slot), va_P D vwCl (pq_P t σ (I, J, ri, rj, rq)) H → va_D A (pq_P t σ (I, J, ri, rj, rq)) → va_S A s.heap H locs → lv_has ls 3 [(0, .int a0), (1, .int a1), (2, .int a2)] → W p l e ({ frames := 0, cells := 0, slots := 0, locals := 0 } : Room) s m (List.toArray ([.int a0, .int a1, .int a2] : List Value)) below meth c H locs 0 0 Q (F0 m 0 ls []) := by
    intro H locs ls hP hD hS hl
    refine lv_iload_n hx hb dX12_isIn_0 rfl (lv_at hl 0 rfl) ?_
    refine lv_iload_n hx hb dX12_isIn_1 rfl (lv_at hl 1 rfl) ?_
    refine lv_icmp_lt (tgt := 14) hx hb dX12_isIn_2 (by decide) (fun c_1 => ?_) (fun c_1 => ?_)
    · have tc_2 : (a0).toInt < (a1).toInt := Int32.lt_iff_toInt_lt.mp c_1
      have h_3 : rg a0 (-2147483648) 2147483646 := rg_lt1 c_1 (rg_full _) (rg_full _) (by decide)
      have uh_3 := h_3.1
      have vh_3 := h_3.2
      have h_4 : rg a1 (-2147483647) 2147483647 := rg_lt2 c_1 (rg_full _) (rg_full _) (by decide)
      have uh_4 := h_4.1
      have vh_4 := h_4.2
      refine lv_iconst (v := 0) hx hb dX12_isIn_14 (by decide) ?_
      subst hQ
      exact W.zret (v := 0) hx hb hr (by decide) (fun t1 ht hW => ⟨⟨0, (σ, I, J, ri, rj, rq), rfl, ⟨rfl, (Or.inr ⟨rfl, (by omega)⟩)⟩, by rw [ht]; exact hP, va_K.moved hW.alike hK, hD⟩, hS.F ht⟩) hS.2.2 dX12_isIn_15
    · have tc_5 : (a1).toInt ≤ (a0).toInt := Int32.le_iff_toInt_le.mp (nlt c_1)
      refine lv_iload_n hx hb dX12_isIn_5 rfl (lv_at hl 0 rfl) ?_
      refine lv_iload_n hx hb dX12_isIn_6 rfl (lv_at hl 2 rfl) ?_
      refine lv_icmp_gt (tgt := 14) hx hb dX12_isIn_7 (by decide) (fun c_6 => ?_) (fun c_6 => ?_)
      · have tc_7 : (a2).toInt < (a0).toInt := Int32.lt_iff_toInt_lt.mp c_6
        have h_8 : rg a2 (-2147483648) 2147483646 := rg_lt1 c_6 (rg_full _) (rg_full _) (by decide)
        have uh_8 := h_8.1
        have vh_8 := h_8.2
        have h_9 : rg a0 (-2147483647) 2147483647 := rg_lt2 c_6 (rg_full _) (rg_full _) (by decide)
        have uh_9 := h_9.1
        have vh_9 := h_9.2
        refine lv_iconst (v := 0) hx hb dX12_isIn_14 (by decide) ?_
        subst hQ
        exact W.zret (v := 0) hx hb hr (by decide) (fun t1 ht hW => ⟨⟨0, (σ, I, J, ri, rj, rq), rfl, ⟨rfl, (Or.inr ⟨rfl, (by omega)⟩)⟩, by rw [ht]; exact hP, va_K.moved hW.alike hK, hD⟩, hS.F ht⟩) hS.2.2 dX12_isIn_15
      · have tc_10 : (a0).toInt ≤ (a2).toInt := Int32.le_iff_toInt_le.mp (nlt c_6)
        refine lv_iconst (v := 1) hx hb dX12_isIn_10 (by decide) ?_
        refine lv_goto (tgt := 15) hx hb dX12_isIn_11 (by decide) ?_
        subst hQ
        exact W.zret (v := 1) hx hb hr (by decide) (fun t1 ht hW => ⟨⟨1, (σ, I, J, ri, rj, rq), rfl, ⟨rfl, (Or.inl ⟨rfl, (nlt c_1), (nlt c_6)⟩)⟩, by rw [ht]; exact hP, va_K.moved hW.alike hK, hD⟩, hS.F ht⟩) hS.2.2 dX12_isIn_15
  exact go _ _ _ hP hD hS hl

set_option maxHeartbeats 4000000 in
set_option maxRecDepth 100000 in
theorem s_X12_isDigit_x (l : Launch) (D : va_G) (t : pq_T) (σ : pq_S) (I : Nat → Nat → Int32) (J : Nat → Nat → Int64) (ri : Nat → Nat → Int32) (rj : Nat → Nat → Int64) (rq : Nat → Nat → Option Nat) (sz : Nat) (tg : Nat → Nat) (hSH : SH σ tg) (hG0 : GT tg I ri) (a0 : Int32) : MetI l yX12_isDigit (wa yX12_isDigit cX12_isDigit 1 (some .boolean)) ({ frames := 1, cells := 0, slots := 0, locals := 22 }) [.int a0] D t σ (I, J, ri, rj, rq) sz 0 0 (fun (r : Int32) (u : pq_S × pq_M) => u = (σ, I, J, ri, rj, rq) ∧ ((r = 1 ∧ rg a0 48 57 ∧ (48 ≤ a0.toInt ∧ a0.toInt ≤ 57)) ∨ (r = 0 ∧ (a0.toInt < 48 ∨ 57 < a0.toInt)))) := by
  refine Met.ofW (cc := cX12_isDigit) (maxL := 1) (ret := (some .boolean)) (by decide) rfl ?_
  intro p e s m args below meth c s₁ B hml hv
  obtain ⟨rfl, hsz, hP, hK, hD0, hN⟩ := hv
  have hx := B.exec
  have hb := B.bytes
  have hr := B.returns
  have hts := atoms_spec (ws := (wa yX12_isDigit cX12_isDigit 1 (some .boolean))) B.pre
  have hown : s.vm.findClass RX12 = some m.cls := findClass_of_methodNamed B.named
  have hlocks := B.notSynchronized
  subst hsz
  have hD : va_D (pq_B t σ (I, J, ri, rj, rq) s.heap.size) (pq_P t σ (I, J, ri, rj, rq)) := hD0.self
  generalize hAe : pq_B t σ (I, J, ri, rj, rq) s.heap.size = A at hD ⊢
  have hA : ∀ q : Nat, s.heap.size ≤ q → A q := fun q h => by rw [← hAe]; exact Or.inr h
  have hS : va_S A s.heap s.heap [] := va_S.rf
  have hG : GM [] tg σ I ri I ri rq := ⟨hG0, fun _ _ _ => rfl, fun _ _ _ _ _ => rfl, fun _ _ _ _ _ _ => rfl⟩
  have hl := lv_entry ([.int a0]) (n := 1) (Nat.le_of_ble_eq_true rfl)
  rw [lg_entry_eq]
  generalize (lg_sl ([.int a0]) ++ List.replicate (1 - (lg_sl ([.int a0])).length) Slot.unset).toArray = ls at hl ⊢
  have hl : lv_has ls 1 [(0, .int a0)] := hl
  refine q_gen (fun Q hQ => ?_)
  have go : ∀ (H : Heap) (locs : List Loc) (ls : Array Slot), va_P D vwCl (pq_P t σ (I, J, ri, rj, rq)) H → va_D A (pq_P t σ (I, J, ri, rj, rq)) → va_S A s.heap H locs → lv_has ls 1 [(0, .int a0)] → W p l e ({ frames := 1, cells := 0, slots := 0, locals := 22 } : Room) s m (List.toArray ([.int a0] : List Value)) below meth c H locs 0 0 Q (F0 m 0 ls []) := by
    intro H locs ls hP hD hS hl
    refine lv_iload_n hx hb dX12_isDigit_0 rfl (lv_at hl 0 rfl) ?_
    refine lv_bipush (v := 48) hx hb dX12_isDigit_1 (by decide) ?_
    refine lv_bipush (v := 57) hx hb dX12_isDigit_3 (by decide) ?_
    refine pk_i (va_runS (As := [.int a0, .int 48, .int 57]) (rest := []) ⟨hx, hb, hml, hown, hts⟩ (s_X12_isIn_x l D t σ I J ri rj rq H.size tg hSH hG.1 a0 (48 : Int32) (57 : Int32)) (va_cwS 3 hts (tw_S tw_235 tw_236 tw_5 tw_237) rfl rfl rfl cd_yX12_isIn_3 ⟨Nat.le_of_ble_eq_true rfl, Nat.le_of_ble_eq_true rfl⟩) ⟨pq_blind, pq_pre hK hN hP hD⟩ rfl rfl hl.1 rfl (lv_room (Nat.le_of_ble_eq_true rfl)) dX12_isDigit_5 ⟨Nat.le_of_ble_eq_true rfl, Nat.le_of_ble_eq_true rfl⟩) hD hS hA (fun x_1 σ1 μ1 H locs hw_2 hP hD hS => ?_)
    obtain ⟨hu_3, hr_5⟩ := hw_2
    obtain ⟨hu_3a, hu_3b⟩ := Prod.mk.inj hu_3
    rw [hu_3a, hu_3b] at hP hD
    have h_6 : rg x_1 0 1 := by rcases hr_5 with ⟨q, -⟩ | ⟨q, -⟩ <;> rw [q] <;> exact ⟨by decide, by decide⟩
    have uh_6 := h_6.1
    have vh_6 := h_6.2
    rcases hr_5 with ⟨e_10, f_7, f_8⟩ | ⟨e_10, f_9⟩
    · refine lv_tov 1 e_10 ?_
      have tc_11 : 48 ≤ (a0).toInt := Int32.le_iff_toInt_le.mp f_7
      have h_12 : rg a0 48 2147483647 := rg_le2 f_7 (rg_k (48 : Int32) 48 rfl) (rg_full _) (by decide)
      have uh_12 := h_12.1
      have vh_12 := h_12.2
      have tc_13 : (a0).toInt ≤ 57 := Int32.le_iff_toInt_le.mp f_8
      have h_14 : rg a0 48 57 := rg_le1 f_8 h_12 (rg_k (57 : Int32) 57 rfl) (by decide)
      have uh_14 := h_14.1
      have vh_14 := h_14.2
      subst hQ
      exact W.zret (v := 1) hx hb hr (by decide) (fun t1 ht hW => ⟨⟨1, (σ, I, J, ri, rj, rq), rfl, ⟨rfl, (Or.inl ⟨rfl, (rg_w h_14 (by decide)), (by omega)⟩)⟩, by rw [ht]; exact hP, va_K.moved hW.alike hK, hD⟩, hS.F ht⟩) hS.2.2 dX12_isDigit_8
    · refine lv_tov 0 e_10 ?_
      have zk_15 : (48 : Int32).toInt = 48 := rfl
      have zk_16 : (57 : Int32).toInt = 57 := rfl
      subst hQ
      exact W.zret (v := 0) hx hb hr (by decide) (fun t1 ht hW => ⟨⟨0, (σ, I, J, ri, rj, rq), rfl, ⟨rfl, (Or.inr ⟨rfl, (by omega)⟩)⟩, by rw [ht]; exact hP, va_K.moved hW.alike hK, hD⟩, hS.F ht⟩) hS.2.2 dX12_isDigit_8
  exact go _ _ _ hP hD hS hl

set_option maxHeartbeats 4000000 in
set_option maxRecDepth 100000 in
theorem s_X12_isLetter_x (l : Launch) (D : va_G) (t : pq_T) (σ : pq_S) (I : Nat → Nat → Int32) (J : Nat → Nat → Int64) (ri : Nat → Nat → Int32) (rj : Nat → Nat → Int64) (rq : Nat → Nat → Option Nat) (sz : Nat) (tg : Nat → Nat) (hSH : SH σ tg) (hG0 : GT tg I ri) (a0 : Int32) : MetI l yX12_isLetter (wa yX12_isLetter cX12_isLetter 1 (some .boolean)) ({ frames := 1, cells := 0, slots := 0, locals := 22 }) [.int a0] D t σ (I, J, ri, rj, rq) sz 0 0 (fun (r : Int32) (u : pq_S × pq_M) => u = (σ, I, J, ri, rj, rq) ∧ ((r = 1 ∧ rg a0 65 122 ∧ ((65 ≤ a0.toInt ∧ a0.toInt ≤ 90 ∨ 97 ≤ a0.toInt ∧ a0.toInt ≤ 122))) ∨ (r = 0 ∧ (¬ (65 ≤ a0.toInt ∧ a0.toInt ≤ 90 ∨ 97 ≤ a0.toInt ∧ a0.toInt ≤ 122))))) := by
  refine Met.ofW (cc := cX12_isLetter) (maxL := 1) (ret := (some .boolean)) (by decide) rfl ?_
  intro p e s m args below meth c s₁ B hml hv
  obtain ⟨rfl, hsz, hP, hK, hD0, hN⟩ := hv
  have hx := B.exec
  have hb := B.bytes
  have hr := B.returns
  have hts := atoms_spec (ws := (wa yX12_isLetter cX12_isLetter 1 (some .boolean))) B.pre
  have hown : s.vm.findClass RX12 = some m.cls := findClass_of_methodNamed B.named
  have hlocks := B.notSynchronized
  subst hsz
  have hD : va_D (pq_B t σ (I, J, ri, rj, rq) s.heap.size) (pq_P t σ (I, J, ri, rj, rq)) := hD0.self
  generalize hAe : pq_B t σ (I, J, ri, rj, rq) s.heap.size = A at hD ⊢
  have hA : ∀ q : Nat, s.heap.size ≤ q → A q := fun q h => by rw [← hAe]; exact Or.inr h
  have hS : va_S A s.heap s.heap [] := va_S.rf
  have hG : GM [] tg σ I ri I ri rq := ⟨hG0, fun _ _ _ => rfl, fun _ _ _ _ _ => rfl, fun _ _ _ _ _ _ => rfl⟩
  have hl := lv_entry ([.int a0]) (n := 1) (Nat.le_of_ble_eq_true rfl)
  rw [lg_entry_eq]
  generalize (lg_sl ([.int a0]) ++ List.replicate (1 - (lg_sl ([.int a0])).length) Slot.unset).toArray = ls at hl ⊢
  have hl : lv_has ls 1 [(0, .int a0)] := hl
  refine q_gen (fun Q hQ => ?_)
  have go : ∀ (H : Heap) (locs : List Loc) (ls : Array Slot), va_P D vwCl (pq_P t σ (I, J, ri, rj, rq)) H → va_D A (pq_P t σ (I, J, ri, rj, rq)) → va_S A s.heap H locs → lv_has ls 1 [(0, .int a0)] → W p l e ({ frames := 1, cells := 0, slots := 0, locals := 22 } : Room) s m (List.toArray ([.int a0] : List Value)) below meth c H locs 0 0 Q (F0 m 0 ls []) := by
    intro H locs ls hP hD hS hl
    refine lv_iload_n hx hb dX12_isLetter_0 rfl (lv_at hl 0 rfl) ?_
    refine lv_bipush (v := 97) hx hb dX12_isLetter_1 (by decide) ?_
    refine lv_bipush (v := 122) hx hb dX12_isLetter_3 (by decide) ?_
    refine pk_i (va_runS (As := [.int a0, .int 97, .int 122]) (rest := []) ⟨hx, hb, hml, hown, hts⟩ (s_X12_isIn_x l D t σ I J ri rj rq H.size tg hSH hG.1 a0 (97 : Int32) (122 : Int32)) (va_cwS 3 hts (tw_S tw_235 tw_236 tw_5 tw_237) rfl rfl rfl cd_yX12_isIn_3 ⟨Nat.le_of_ble_eq_true rfl, Nat.le_of_ble_eq_true rfl⟩) ⟨pq_blind, pq_pre hK hN hP hD⟩ rfl rfl hl.1 rfl (lv_room (Nat.le_of_ble_eq_true rfl)) dX12_isLetter_5 ⟨Nat.le_of_ble_eq_true rfl, Nat.le_of_ble_eq_true rfl⟩) hD hS hA (fun x_1 σ1 μ1 H locs hw_2 hP hD hS => ?_)
    obtain ⟨hu_3, hr_5⟩ := hw_2
    obtain ⟨hu_3a, hu_3b⟩ := Prod.mk.inj hu_3
    rw [hu_3a, hu_3b] at hP hD
    have h_6 : rg x_1 0 1 := by rcases hr_5 with ⟨q, -⟩ | ⟨q, -⟩ <;> rw [q] <;> exact ⟨by decide, by decide⟩
    have uh_6 := h_6.1
    have vh_6 := h_6.2
    refine lv_if_ne (tgt := 22) hx hb dX12_isLetter_8 (by decide) (fun c_7 => ?_) (fun c_7 => ?_)
    · obtain ⟨f_8, f_9⟩ := (hr_5.resolve_right (fun q => c_7 q.1)).2
      have tc_10 : 97 ≤ (a0).toInt := Int32.le_iff_toInt_le.mp f_8
      have h_11 : rg a0 97 2147483647 := rg_le2 f_8 (rg_k (97 : Int32) 97 rfl) (rg_full _) (by decide)
      have uh_11 := h_11.1
      have vh_11 := h_11.2
      have tc_12 : (a0).toInt ≤ 122 := Int32.le_iff_toInt_le.mp f_9
      have h_13 : rg a0 97 122 := rg_le1 f_9 h_11 (rg_k (122 : Int32) 122 rfl) (by decide)
      have uh_13 := h_13.1
      have vh_13 := h_13.2
      have tc_14 : (x_1).toInt ≠ 0 := fun q => c_7 (Int32.toInt_inj.mp q)
      have h_15 : rg x_1 1 1 := rg_ne c_7 h_6 0 rfl (by decide)
      have uh_15 := h_15.1
      have vh_15 := h_15.2
      refine lv_iconst (v := 1) hx hb dX12_isLetter_22 (by decide) ?_
      refine lv_goto (tgt := 27) hx hb dX12_isLetter_23 (by decide) ?_
      subst hQ
      exact W.zret (v := 1) hx hb hr (by decide) (fun t1 ht hW => ⟨⟨1, (σ, I, J, ri, rj, rq), rfl, ⟨rfl, (Or.inl ⟨rfl, (rg_w h_13 (by decide)), (by omega)⟩)⟩, by rw [ht]; exact hP, va_K.moved hW.alike hK, hD⟩, hS.F ht⟩) hS.2.2 dX12_isLetter_27
    · have f_16 := (hr_5.resolve_left (fun q => absurd (q.1.symm.trans c_7) (by decide))).2
      have zk_17 : (122 : Int32).toInt = 122 := rfl
      have zk_18 : (97 : Int32).toInt = 97 := rfl
      have tc_19 : (x_1).toInt = 0 := congrArg Int32.toInt c_7
      have h_20 : rg x_1 0 0 := rg_and h_6 (rg_of_eq c_7 (rg_k (0 : Int32) 0 rfl)) (by decide)
      have uh_20 := h_20.1
      have vh_20 := h_20.2
      refine lv_iload_n hx hb dX12_isLetter_11 rfl (lv_at hl 0 rfl) ?_
      refine lv_bipush (v := 65) hx hb dX12_isLetter_12 (by decide) ?_
      refine lv_bipush (v := 90) hx hb dX12_isLetter_14 (by decide) ?_
      refine pk_i (va_runS (As := [.int a0, .int 65, .int 90]) (rest := []) ⟨hx, hb, hml, hown, hts⟩ (s_X12_isIn_x l D t σ I J ri rj rq H.size tg hSH hG.1 a0 (65 : Int32) (90 : Int32)) (va_cwS 3 hts (tw_S tw_235 tw_236 tw_5 tw_237) rfl rfl rfl cd_yX12_isIn_3 ⟨Nat.le_of_ble_eq_true rfl, Nat.le_of_ble_eq_true rfl⟩) ⟨pq_blind, pq_pre hK hN hP hD⟩ rfl rfl hl.1 rfl (lv_room (Nat.le_of_ble_eq_true rfl)) dX12_isLetter_16 ⟨Nat.le_of_ble_eq_true rfl, Nat.le_of_ble_eq_true rfl⟩) hD hS hA (fun x_21 σ1 μ1 H locs hw_22 hP hD hS => ?_)
      obtain ⟨hu_23, hr_25⟩ := hw_22
      obtain ⟨hu_23a, hu_23b⟩ := Prod.mk.inj hu_23
      rw [hu_23a, hu_23b] at hP hD
      have h_26 : rg x_21 0 1 := by rcases hr_25 with ⟨q, -⟩ | ⟨q, -⟩ <;> rw [q] <;> exact ⟨by decide, by decide⟩
      have uh_26 := h_26.1
      have vh_26 := h_26.2
      refine lv_if_eq (tgt := 26) hx hb dX12_isLetter_19 (by decide) (fun c_27 => ?_) (fun c_27 => ?_)
      · have f_28 := (hr_25.resolve_left (fun q => absurd (q.1.symm.trans c_27) (by decide))).2
        have zk_29 : (65 : Int32).toInt = 65 := rfl
        have zk_30 : (90 : Int32).toInt = 90 := rfl
        have tc_31 : (x_21).toInt = 0 := congrArg Int32.toInt c_27
        have h_32 : rg x_21 0 0 := rg_and h_26 (rg_of_eq c_27 (rg_k (0 : Int32) 0 rfl)) (by decide)
        have uh_32 := h_32.1
        have vh_32 := h_32.2
        refine lv_iconst (v := 0) hx hb dX12_isLetter_26 (by decide) ?_
        subst hQ
        exact W.zret (v := 0) hx hb hr (by decide) (fun t1 ht hW => ⟨⟨0, (σ, I, J, ri, rj, rq), rfl, ⟨rfl, (Or.inr ⟨rfl, (by omega)⟩)⟩, by rw [ht]; exact hP, va_K.moved hW.alike hK, hD⟩, hS.F ht⟩) hS.2.2 dX12_isLetter_27
      · obtain ⟨f_33, f_34⟩ := (hr_25.resolve_right (fun q => c_27 q.1)).2
        have tc_35 : 65 ≤ (a0).toInt := Int32.le_iff_toInt_le.mp f_33
        have h_36 : rg a0 65 2147483647 := rg_le2 f_33 (rg_k (65 : Int32) 65 rfl) (rg_full _) (by decide)
        have uh_36 := h_36.1
        have vh_36 := h_36.2
        have tc_37 : (a0).toInt ≤ 90 := Int32.le_iff_toInt_le.mp f_34
        have h_38 : rg a0 65 90 := rg_le1 f_34 h_36 (rg_k (90 : Int32) 90 rfl) (by decide)
        have uh_38 := h_38.1
        have vh_38 := h_38.2
        have tc_39 : (x_21).toInt ≠ 0 := fun q => c_27 (Int32.toInt_inj.mp q)
        have h_40 : rg x_21 1 1 := rg_ne c_27 h_26 0 rfl (by decide)
        have uh_40 := h_40.1
        have vh_40 := h_40.2
        refine lv_iconst (v := 1) hx hb dX12_isLetter_22 (by decide) ?_
        refine lv_goto (tgt := 27) hx hb dX12_isLetter_23 (by decide) ?_
        subst hQ
        exact W.zret (v := 1) hx hb hr (by decide) (fun t1 ht hW => ⟨⟨1, (σ, I, J, ri, rj, rq), rfl, ⟨rfl, (Or.inl ⟨rfl, (rg_w h_38 (by decide)), (by omega)⟩)⟩, by rw [ht]; exact hP, va_K.moved hW.alike hK, hD⟩, hS.F ht⟩) hS.2.2 dX12_isLetter_27
  exact go _ _ _ hP hD hS hl

set_option maxHeartbeats 4000000 in
set_option maxRecDepth 100000 in
theorem s_X12_see_x (l : Launch) (D : va_G) (t : pq_T) (σ : pq_S) (I : Nat → Nat → Int32) (J : Nat → Nat → Int64) (ri : Nat → Nat → Int32) (rj : Nat → Nat → Int64) (rq : Nat → Nat → Option Nat) (sz : Nat) (tg : Nat → Nat) (hSH : SH σ tg) (hG0 : GT tg I ri) (this : Nat) (a0 : Int32) (hL_this : this ∈ σ.1) (hK_this : σ.2.1 this = 12) (h_a0 : rg a0 0 300) (this_tape : Nat) (hR_this_tape : σ.2.2.1 387 this = some this_tape) (hL_this_tape : this_tape ∈ σ.1) (hK_this_tape : σ.2.1 this_tape = 13) (hN_this_tape : σ.2.2.2 this_tape = 300) (hT_this_tape : tg this_tape = 387) : MetI l yX12_see (wa yX12_see cX12_see 2 (some .int)) ({ frames := 0, cells := 0, slots := 0, locals := 0 }) [.ref this, .int a0] D t σ (I, J, ri, rj, rq) sz 0 0 (fun (r : Int32) (u : pq_S × pq_M) => u = (σ, I, J, ri, rj, rq) ∧ ((r.toInt = -1 ∧ (I 388 this).toInt ≤ a0.toInt) ∨ (r = ri this_tape a0.toNatClampNeg ∧ 0 ≤ r.toInt ∧ a0.toInt < (I 388 this).toInt)) ∧ rg r (-1) 255) := by
  refine Met.ofW (cc := cX12_see) (maxL := 2) (ret := (some .int)) (by decide) rfl ?_
  intro p e s m args below meth c s₁ B hml hv
  obtain ⟨rfl, hsz, hP, hK, hD0, hN⟩ := hv
  have hx := B.exec
  have hb := B.bytes
  have hr := B.returns
  have hts := atoms_spec (ws := (wa yX12_see cX12_see 2 (some .int))) B.pre
  have hown : s.vm.findClass RX12 = some m.cls := findClass_of_methodNamed B.named
  have hlocks := B.notSynchronized
  subst hsz
  have hD : va_D (pq_B t σ (I, J, ri, rj, rq) s.heap.size) (pq_P t σ (I, J, ri, rj, rq)) := hD0.self
  generalize hAe : pq_B t σ (I, J, ri, rj, rq) s.heap.size = A at hD ⊢
  have hA : ∀ q : Nat, s.heap.size ≤ q → A q := fun q h => by rw [← hAe]; exact Or.inr h
  have hS : va_S A s.heap s.heap [] := va_S.rf
  have hG : GM [] tg σ I ri I ri rq := ⟨hG0, fun _ _ _ => rfl, fun _ _ _ _ _ => rfl, fun _ _ _ _ _ _ => rfl⟩
  have hl := lv_entry ([.ref this, .int a0]) (n := 2) (Nat.le_of_ble_eq_true rfl)
  rw [lg_entry_eq]
  generalize (lg_sl ([.ref this, .int a0]) ++ List.replicate (2 - (lg_sl ([.ref this, .int a0])).length) Slot.unset).toArray = ls at hl ⊢
  have hl : lv_has ls 2 [(0, .ref this), (1, .int a0)] := hl
  refine q_gen (fun Q hQ => ?_)
  have go : ∀ (H : Heap) (locs : List Loc) (ls : Array Slot), va_P D vwCl (pq_P t σ (I, J, ri, rj, rq)) H → va_D A (pq_P t σ (I, J, ri, rj, rq)) → va_S A s.heap H locs → lv_has ls 2 [(0, .ref this), (1, .int a0)] → W p l e ({ frames := 0, cells := 0, slots := 0, locals := 0 } : Room) s m (List.toArray ([.ref this, .int a0] : List Value)) below meth c H locs 0 0 Q (F0 m 0 ls []) := by
    intro H locs ls hP hD hS hl
    refine lv_iload_n hx hb dX12_see_0 rfl (lv_at hl 1 rfl) ?_
    refine lv_aload_n hx hb dX12_see_1 rfl (lv_at hl 0 rfl) ?_
    refine pg_f (v := .int (I 388 this)) (C := RX12) (T := TX12) (N := 31) hx hb hts (tw_i inlX12) hown hK hP hL_this hK_this (by decide) rfl 4 (by decide) (hts _ (tw_c tw_631)) rfl dX12_see_2 ?_
    have h_1 : rg (I 388 this) 0 300 := GM.rI hG 388 rfl
    have uh_1 := h_1.1
    have vh_1 := h_1.2
    refine lv_icmp_ge (tgt := 17) hx hb dX12_see_5 (by decide) (fun c_2 => ?_) (fun c_2 => ?_)
    · have tc_3 : (I 388 this).toInt ≤ (a0).toInt := Int32.le_iff_toInt_le.mp c_2
      refine lv_iconst (v := (-1)) hx hb dX12_see_17 (by decide) ?_
      subst hQ
      exact W.iret (v := (-1)) hx hb hr (fun t1 ht hW => ⟨⟨(-1), (σ, I, J, ri, rj, rq), rfl, ⟨rfl, (Or.inl ⟨rfl, by omega⟩), (rg_w (rg_k (-1 : Int32) (-1) rfl) (by decide))⟩, by rw [ht]; exact hP, va_K.moved hW.alike hK, hD⟩, hS.F ht⟩) hS.2.2 dX12_see_18
    · have tc_4 : (a0).toInt < (I 388 this).toInt := Int32.lt_iff_toInt_lt.mp (nle c_2)
      have h_5 : rg a0 0 299 := rg_lt1 (nle c_2) h_a0 h_1 (by decide)
      have uh_5 := h_5.1
      have vh_5 := h_5.2
      have h_6 : rg (I 388 this) 1 300 := rg_lt2 (nle c_2) h_a0 h_1 (by decide)
      have uh_6 := h_6.1
      have vh_6 := h_6.2
      refine lv_aload_n hx hb dX12_see_8 rfl (lv_at hl 0 rfl) ?_
      refine pg_f (v := .ref this_tape) (C := RX12) (T := TX12) (N := 31) hx hb hts (tw_i inlX12) hown hK hP hL_this hK_this (by decide) rfl 3 (by decide) (hts _ (tw_c tw_179)) (pq_hv rfl hR_this_tape) dX12_see_9 ?_
      refine lv_iload_n hx hb dX12_see_12 rfl (lv_at hl 1 rfl) ?_
      refine pl_i hx hb hK hP hL_this_tape hK_this_tape hN_this_tape (rg_in h_5 (by decide)) dX12_see_13 ?_
      refine lv_topi (fun x_7 ex_7 => ?_)
      have ex_7 : x_7 = ri this_tape (a0).toNatClampNeg := ex_7
      have h_8 : rg x_7 0 255 := rg_of_eq ex_7 (GM.rR hG hT_this_tape rfl)
      have uh_8 := h_8.1
      have vh_8 := h_8.2
      refine lv_goto (tgt := 18) hx hb dX12_see_14 (by decide) ?_
      subst hQ
      exact W.iret (v := x_7) hx hb hr (fun t1 ht hW => ⟨⟨x_7, (σ, I, J, ri, rj, rq), rfl, ⟨rfl, (Or.inr ⟨ex_7, (h_8).1, by omega⟩), (rg_w h_8 (by decide))⟩, by rw [ht]; exact hP, va_K.moved hW.alike hK, hD⟩, hS.F ht⟩) hS.2.2 dX12_see_18
  exact go _ _ _ hP hD hS hl

set_option maxHeartbeats 4000000 in
set_option maxRecDepth 100000 in
theorem s_X12_nextToken_x (l : Launch) (D : va_G) (t : pq_T) (σ : pq_S) (I : Nat → Nat → Int32) (J : Nat → Nat → Int64) (ri : Nat → Nat → Int32) (rj : Nat → Nat → Int64) (rq : Nat → Nat → Option Nat) (sz : Nat) (tg : Nat → Nat) (hSH : SH σ tg) (hG0 : GT tg I ri) (this : Nat) (hL_this : this ∈ σ.1) (hK_this : σ.2.1 this = 12) (this_tape : Nat) (hR_this_tape : σ.2.2.1 387 this = some this_tape) (hL_this_tape : this_tape ∈ σ.1) (hK_this_tape : σ.2.1 this_tape = 13) (hN_this_tape : σ.2.2.2 this_tape = 300) (hT_this_tape : tg this_tape = 387) : MetV l yX12_nextToken (wa yX12_nextToken cX12_nextToken 3 none) ({ frames := 2, cells := 0, slots := 0, locals := 42 }) [.ref this] D t σ (I, J, ri, rj, rq) sz 0 0 (fun (u : pq_S × pq_M) => ∃ I' : Nat → Nat → Int32, ∃ J' : Nat → Nat → Int64, u = (σ, I', J', ri, rj, rq) ∧ GM [391, 392, 393] tg σ I ri I' ri rq ∧ ((I 391 this).toInt ≤ (I' 391 this).toInt) ∧ ((I' 393 this).toInt = 0 ∨ (I 391 this).toInt + 1 ≤ (I' 391 this).toInt) ∧ ((I' 403 this).toInt = (I 403 this).toInt)) := by
  refine Met.ofW (cc := cX12_nextToken) (maxL := 3) (ret := none) (by decide) rfl ?_
  intro p e s m args below meth c s₁ B hml hv
  obtain ⟨rfl, hsz, hP, hK, hD0, hN⟩ := hv
  have hx := B.exec
  have hb := B.bytes
  have hr := B.returns
  have hts := atoms_spec (ws := (wa yX12_nextToken cX12_nextToken 3 none)) B.pre
  have hown : s.vm.findClass RX12 = some m.cls := findClass_of_methodNamed B.named
  have hlocks := B.notSynchronized
  subst hsz
  have hD : va_D (pq_B t σ (I, J, ri, rj, rq) s.heap.size) (pq_P t σ (I, J, ri, rj, rq)) := hD0.self
  generalize hAe : pq_B t σ (I, J, ri, rj, rq) s.heap.size = A at hD ⊢
  have hA : ∀ q : Nat, s.heap.size ≤ q → A q := fun q h => by rw [← hAe]; exact Or.inr h
  have hS : va_S A s.heap s.heap [] := va_S.rf
  have hG : GM [391, 392, 393] tg σ I ri I ri rq := ⟨hG0, fun _ _ _ => rfl, fun _ _ _ _ _ => rfl, fun _ _ _ _ _ _ => rfl⟩
  have hl := lv_entry ([.ref this]) (n := 3) (Nat.le_of_ble_eq_true rfl)
  rw [lg_entry_eq]
  generalize (lg_sl ([.ref this]) ++ List.replicate (3 - (lg_sl ([.ref this])).length) Slot.unset).toArray = ls at hl ⊢
  have hl : lv_has ls 3 [(0, .ref this)] := hl
  refine q_gen (fun Q hQ => ?_)
  have go : ∀ (H : Heap) (locs : List Loc) (ls : Array Slot), va_P D vwCl (pq_P t σ (I, J, ri, rj, rq)) H → va_D A (pq_P t σ (I, J, ri, rj, rq)) → va_S A s.heap H locs → lv_has ls 3 [(0, .ref this)] → W p l e ({ frames := 2, cells := 0, slots := 0, locals := 42 } : Room) s m (List.toArray ([.ref this] : List Value)) below meth c H locs 0 0 Q (F0 m 0 ls []) := by
    intro H locs ls hP hD hS hl
    have L_3946 : ∀ (n_3945 : Nat) (I_2958 : Nat → Nat → Int32) (H : Heap) (locs : List Loc) (ls : Array Slot), ((I 391 this).toInt ≤ (I_2958 391 this).toInt ∧ (I_2958 388 this).toInt = (I 388 this).toInt ∧ (I_2958 403 this).toInt = (I 403 this).toInt) → (300 - (I_2958 391 this).toInt).toNat < n_3945 → GM [391, 392, 393] tg σ I ri I_2958 ri rq → va_P D vwCl (pq_P t σ (I_2958, J, ri, rj, rq)) H → va_D A (pq_P t σ (I_2958, J, ri, rj, rq)) → va_S A s.heap H locs → lv_has ls 3 [(0, .ref this)] → W p l e ({ frames := 2, cells := 0, slots := 0, locals := 42 } : Room) s m (List.toArray ([.ref this] : List Value)) below meth c H locs 0 0 Q (F0 m 0 ls []) := by
      intro n_3945
      induction n_3945 with
      | zero => intro I_2958 H locs ls hrel_3949 hm_3944 hG hP hD hS hl; exact absurd hm_3944 (Nat.not_lt_zero _)
      | succ n_3945 ih_3947 =>
        intro I_2958 H locs ls hrel_3949 hm_3944 hG hP hD hS hl
        refine lv_aload_n hx hb dX12_nextToken_0 rfl (lv_at hl 0 rfl) ?_
        refine lv_aload_n hx hb dX12_nextToken_1 rfl (lv_at hl 0 rfl) ?_
        refine pg_f (v := .int (I_2958 391 this)) (C := RX12) (T := TX12) (N := 31) hx hb hts (tw_i inlX12) hown hK hP hL_this hK_this (by decide) rfl 7 (by decide) (hts _ (tw_c tw_830)) rfl dX12_nextToken_2 ?_
        have h_3950 : rg (I_2958 391 this) 0 300 := GM.rI hG 391 rfl
        have uh_3950 := h_3950.1
        have vh_3950 := h_3950.2
        refine pk_i (va_runV (As := [.int (I_2958 391 this)]) (rest := []) ⟨hx, hb, hml, hown, hts⟩ (s_X12_see_x l D t σ I_2958 J ri rj rq H.size tg hSH hG.1 this (I_2958 391 this) hL_this hK_this (rg_w h_3950 (by decide)) this_tape hR_this_tape hL_this_tape hK_this_tape hN_this_tape hT_this_tape) (cwV 1 hts (tw_V tw_839 tw_840 tw_841 tw_5 tw_842) rfl rfl rfl cv_yX12_see_1 ⟨Nat.le_of_ble_eq_true rfl, Nat.le_of_ble_eq_true rfl⟩) ⟨pq_blind, pq_recv hK hP hL_this hK_this (by decide) rfl, pq_pre hK hN hP hD⟩ rfl rfl hl.1 rfl (lv_room (Nat.le_of_ble_eq_true rfl)) dX12_nextToken_5 ⟨Nat.le_of_ble_eq_true rfl, Nat.le_of_ble_eq_true rfl⟩) hD hS hA (fun x_3951 σ1 μ1 H locs hw_3952 hP hD hS => ?_)
        obtain ⟨hu_3953, hp_3956, hr_3955⟩ := hw_3952
        obtain ⟨hu_3953a, hu_3953b⟩ := Prod.mk.inj hu_3953
        rw [hu_3953a, hu_3953b] at hP hD
        have tt_3957 : ((x_3951).toInt = -1 ∧ (I_2958 388 this).toInt ≤ (I_2958 391 this).toInt) ∨ (0 ≤ (x_3951).toInt ∧ (I_2958 391 this).toInt < (I_2958 388 this).toInt) := hp_3956.elim Or.inl (fun q => Or.inr q.2)
        have tt_3958 := (GM.rI hG 388 (a := this) (lo := 0) (hi := 300) rfl).2
        refine lv_bipush (v := 32) hx hb dX12_nextToken_8 (by decide) ?_
        refine lv_icmp_eq (tgt := 26) hx hb dX12_nextToken_10 (by decide) (fun c_3959 => ?_) (fun c_3959 => ?_)
        · have tc_3960 : (x_3951).toInt = 32 := congrArg Int32.toInt c_3959
          have h_3961 : rg x_3951 32 32 := rg_and hr_3955 (rg_of_eq c_3959 (rg_k (32 : Int32) 32 rfl)) (by decide)
          have uh_3961 := h_3961.1
          have vh_3961 := h_3961.2
          refine lv_aload_n hx hb dX12_nextToken_26 rfl (lv_at hl 0 rfl) ?_
          refine lv_dup hx hb dX12_nextToken_27 rfl ?_
          refine pg_f (v := .int (I_2958 391 this)) (C := RX12) (T := TX12) (N := 31) hx hb hts (tw_i inlX12) hown hK hP hL_this hK_this (by decide) rfl 7 (by decide) (hts _ (tw_c tw_830)) rfl dX12_nextToken_28 ?_
          refine lv_iconst (v := 1) hx hb dX12_nextToken_31 (by decide) ?_
          have h_3962 : rg (I_2958 391 this) 0 299 := ⟨by omega, by omega⟩
          have uh_3962 := h_3962.1
          have vh_3962 := h_3962.2
          refine lv_iadd hx hb dX12_nextToken_32 ?_
          refine lv_topi (fun x_3963 ex_3963 => ?_)
          have h_3964 : rg x_3963 1 300 := rg_of_eq ex_3963 (rg_add h_3962 (rg_k (1 : Int32) 1 rfl) (by decide))
          have uh_3964 := h_3964.1
          have vh_3964 := h_3964.2
          have tx_3963 : (x_3963).toInt = (I_2958 391 this).toInt + 1 := by rw [ex_3963]; exact i_add_rg (a2 := (I_2958 391 this).toInt) (b2 := 1) rfl rfl h_3962 (rg_k (1 : Int32) 1 rfl) (by decide)
          refine pp_i (v := x_3963) (ty := .int) (C := RX12) (T := TX12) (N := 31) hx hb hts (tw_i inlX12) tyX12 tyX12_ok nmX12 hown hK hP hD hS hL_this hK_this (by decide) rfl 7 391 (by decide) (hts _ (tw_c tw_830)) rfl (tyX12_ok 7 (by decide)) rfl rfl (Nat.le_of_ble_eq_true rfl) (ps_391 _ _ _ _ _) dX12_nextToken_33 (fun I_3965 H locs eI_3965 hP hD hS => ?_)
          have hG := GM.wI hG 391 rfl eI_3965 (rg_w h_3964 (by decide)) (by decide)
          have tt_3966 : (I_3965 391 this).toInt = (x_3963).toInt := by rw [eI_3965, pq_us]
          have tt_3967 : (I_3965 388 this).toInt = (I_2958 388 this).toInt := by rw [eI_3965, pq_uf _ _ _ (by decide)]
          have tt_3968 : (I_3965 403 this).toInt = (I_2958 403 this).toInt := by rw [eI_3965, pq_uf _ _ _ (by decide)]
          have tt_3969 : (I_3965 393 this).toInt = (I_2958 393 this).toInt := by rw [eI_3965, pq_uf _ _ _ (by decide)]
          refine lv_goto (tgt := 0) hx hb dX12_nextToken_36 (by decide) ?_
          exact ih_3947 I_3965 _ _ _ (by omega) (ms_fu_iadd hm_3944 (by rw [eI_3965]; exact pq_us _ _ _ _) ex_3963 rfl (kk := 1) rfl (by decide) h_3962 (by decide) (by decide)) hG hP hD hS (lv_sub hl [0] rfl)
        · have tc_3970 : (x_3951).toInt ≠ 32 := fun q => c_3959 (Int32.toInt_inj.mp q)
          refine lv_aload_n hx hb dX12_nextToken_13 rfl (lv_at hl 0 rfl) ?_
          refine lv_aload_n hx hb dX12_nextToken_14 rfl (lv_at hl 0 rfl) ?_
          refine pg_f (v := .int (I_2958 391 this)) (C := RX12) (T := TX12) (N := 31) hx hb hts (tw_i inlX12) hown hK hP hL_this hK_this (by decide) rfl 7 (by decide) (hts _ (tw_c tw_830)) rfl dX12_nextToken_15 ?_
          refine pk_i (va_runV (As := [.int (I_2958 391 this)]) (rest := []) ⟨hx, hb, hml, hown, hts⟩ (s_X12_see_x l D t σ I_2958 J ri rj rq H.size tg hSH hG.1 this (I_2958 391 this) hL_this hK_this (rg_w h_3950 (by decide)) this_tape hR_this_tape hL_this_tape hK_this_tape hN_this_tape hT_this_tape) (cwV 1 hts (tw_V tw_839 tw_840 tw_841 tw_5 tw_842) rfl rfl rfl cv_yX12_see_1 ⟨Nat.le_of_ble_eq_true rfl, Nat.le_of_ble_eq_true rfl⟩) ⟨pq_blind, pq_recv hK hP hL_this hK_this (by decide) rfl, pq_pre hK hN hP hD⟩ rfl rfl hl.1 rfl (lv_room (Nat.le_of_ble_eq_true rfl)) dX12_nextToken_18 ⟨Nat.le_of_ble_eq_true rfl, Nat.le_of_ble_eq_true rfl⟩) hD hS hA (fun x_3971 σ1 μ1 H locs hw_3972 hP hD hS => ?_)
          obtain ⟨hu_3973, hp_3976, hr_3975⟩ := hw_3972
          obtain ⟨hu_3973a, hu_3973b⟩ := Prod.mk.inj hu_3973
          rw [hu_3973a, hu_3973b] at hP hD
          have tt_3977 : ((x_3971).toInt = -1 ∧ (I_2958 388 this).toInt ≤ (I_2958 391 this).toInt) ∨ (0 ≤ (x_3971).toInt ∧ (I_2958 391 this).toInt < (I_2958 388 this).toInt) := hp_3976.elim Or.inl (fun q => Or.inr q.2)
          have tt_3978 := (GM.rI hG 388 (a := this) (lo := 0) (hi := 300) rfl).2
          refine lv_bipush (v := 10) hx hb dX12_nextToken_21 (by decide) ?_
          refine lv_icmp_ne (tgt := 39) hx hb dX12_nextToken_23 (by decide) (fun c_3979 => ?_) (fun c_3979 => ?_)
          · have tc_3980 : (x_3971).toInt ≠ 10 := fun q => c_3979 (Int32.toInt_inj.mp q)
            refine lv_aload_n hx hb dX12_nextToken_39 rfl (lv_at hl 0 rfl) ?_
            refine lv_aload_n hx hb dX12_nextToken_40 rfl (lv_at hl 0 rfl) ?_
            refine pg_f (v := .int (I_2958 391 this)) (C := RX12) (T := TX12) (N := 31) hx hb hts (tw_i inlX12) hown hK hP hL_this hK_this (by decide) rfl 7 (by decide) (hts _ (tw_c tw_830)) rfl dX12_nextToken_41 ?_
            refine pp_i (v := (I_2958 391 this)) (ty := .int) (C := RX12) (T := TX12) (N := 31) hx hb hts (tw_i inlX12) tyX12 tyX12_ok nmX12 hown hK hP hD hS hL_this hK_this (by decide) rfl 8 392 (by decide) (hts _ (tw_c tw_820)) rfl (tyX12_ok 8 (by decide)) rfl rfl (Nat.le_of_ble_eq_true rfl) (ps_392 _ _ _ _ _) dX12_nextToken_44 (fun I_3981 H locs eI_3981 hP hD hS => ?_)
            have hG := GM.wI hG 392 rfl eI_3981 (rg_w h_3950 (by decide)) (by decide)
            have tt_3982 : (I_3981 391 this).toInt = (I_2958 391 this).toInt := by rw [eI_3981, pq_uf _ _ _ (by decide)]
            have tt_3983 : (I_3981 388 this).toInt = (I_2958 388 this).toInt := by rw [eI_3981, pq_uf _ _ _ (by decide)]
            have tt_3984 : (I_3981 403 this).toInt = (I_2958 403 this).toInt := by rw [eI_3981, pq_uf _ _ _ (by decide)]
            have tt_3985 : (I_3981 393 this).toInt = (I_2958 393 this).toInt := by rw [eI_3981, pq_uf _ _ _ (by decide)]
            refine lv_aload_n hx hb dX12_nextToken_47 rfl (lv_at hl 0 rfl) ?_
            refine lv_aload_n hx hb dX12_nextToken_48 rfl (lv_at hl 0 rfl) ?_
            refine pg_f (v := .int (I_3981 391 this)) (C := RX12) (T := TX12) (N := 31) hx hb hts (tw_i inlX12) hown hK hP hL_this hK_this (by decide) rfl 7 (by decide) (hts _ (tw_c tw_830)) rfl dX12_nextToken_49 ?_
            have h_3986 : rg (I_3981 391 this) 0 300 := GM.rI hG 391 rfl
            have uh_3986 := h_3986.1
            have vh_3986 := h_3986.2
            refine pk_i (va_runV (As := [.int (I_3981 391 this)]) (rest := []) ⟨hx, hb, hml, hown, hts⟩ (s_X12_see_x l D t σ I_3981 J ri rj rq H.size tg hSH hG.1 this (I_3981 391 this) hL_this hK_this (rg_w h_3986 (by decide)) this_tape hR_this_tape hL_this_tape hK_this_tape hN_this_tape hT_this_tape) (cwV 1 hts (tw_V tw_839 tw_840 tw_841 tw_5 tw_842) rfl rfl rfl cv_yX12_see_1 ⟨Nat.le_of_ble_eq_true rfl, Nat.le_of_ble_eq_true rfl⟩) ⟨pq_blind, pq_recv hK hP hL_this hK_this (by decide) rfl, pq_pre hK hN hP hD⟩ rfl rfl hl.1 rfl (lv_room (Nat.le_of_ble_eq_true rfl)) dX12_nextToken_52 ⟨Nat.le_of_ble_eq_true rfl, Nat.le_of_ble_eq_true rfl⟩) hD hS hA (fun x_3987 σ1 μ1 H locs hw_3988 hP hD hS => ?_)
            obtain ⟨hu_3989, hp_3992, hr_3991⟩ := hw_3988
            obtain ⟨hu_3989a, hu_3989b⟩ := Prod.mk.inj hu_3989
            rw [hu_3989a, hu_3989b] at hP hD
            have tt_3993 : ((x_3987).toInt = -1 ∧ (I_3981 388 this).toInt ≤ (I_3981 391 this).toInt) ∨ (0 ≤ (x_3987).toInt ∧ (I_3981 391 this).toInt < (I_3981 388 this).toInt) := hp_3992.elim Or.inl (fun q => Or.inr q.2)
            have tt_3994 := (GM.rI hG 388 (a := this) (lo := 0) (hi := 300) rfl).2
            refine lv_istore_n (lv' := [(1, .int x_3987), (0, .ref this)]) hx hb dX12_nextToken_55 rfl hl (by decide) rfl (fun ls hl => ?_)
            refine lv_iload_n hx hb dX12_nextToken_56 rfl (lv_at hl 0 rfl) ?_
            refine lv_if_ge (tgt := 68) hx hb dX12_nextToken_57 (by decide) (fun c_3995 => ?_) (fun c_3995 => ?_)
            · have tc_3996 : 0 ≤ (x_3987).toInt := Int32.le_iff_toInt_le.mp c_3995
              have h_3997 : rg x_3987 0 255 := rg_le2 c_3995 (rg_k (0 : Int32) 0 rfl) hr_3991 (by decide)
              have uh_3997 := h_3997.1
              have vh_3997 := h_3997.2
              refine lv_iload_n hx hb dX12_nextToken_68 rfl (lv_at hl 0 rfl) ?_
              refine pk_i (va_runS (As := [.int x_3987]) (rest := []) ⟨hx, hb, hml, hown, hts⟩ (s_X12_isDigit_x l D t σ I_3981 J ri rj rq H.size tg hSH hG.1 x_3987) (va_cwS 1 hts (tw_S tw_843 tw_844 tw_5 tw_845) rfl rfl rfl cd_yX12_isDigit_1 ⟨Nat.le_of_ble_eq_true rfl, Nat.le_of_ble_eq_true rfl⟩) ⟨pq_blind, pq_pre hK hN hP hD⟩ rfl rfl hl.1 rfl (lv_room (Nat.le_of_ble_eq_true rfl)) dX12_nextToken_69 ⟨Nat.le_of_ble_eq_true rfl, Nat.le_of_ble_eq_true rfl⟩) hD hS hA (fun x_3998 σ1 μ1 H locs hw_3999 hP hD hS => ?_)
              obtain ⟨hu_4000, hr_4002⟩ := hw_3999
              obtain ⟨hu_4000a, hu_4000b⟩ := Prod.mk.inj hu_4000
              rw [hu_4000a, hu_4000b] at hP hD
              have h_4003 : rg x_3998 0 1 := by rcases hr_4002 with ⟨q, -⟩ | ⟨q, -⟩ <;> rw [q] <;> exact ⟨by decide, by decide⟩
              have uh_4003 := h_4003.1
              have vh_4003 := h_4003.2
              refine lv_if_eq (tgt := 144) hx hb dX12_nextToken_72 (by decide) (fun c_4004 => ?_) (fun c_4004 => ?_)
              · have f_4005 := (hr_4002.resolve_left (fun q => absurd (q.1.symm.trans c_4004) (by decide))).2
                have tc_4006 : (x_3998).toInt = 0 := congrArg Int32.toInt c_4004
                have h_4007 : rg x_3998 0 0 := rg_and h_4003 (rg_of_eq c_4004 (rg_k (0 : Int32) 0 rfl)) (by decide)
                have uh_4007 := h_4007.1
                have vh_4007 := h_4007.2
                refine lv_iload_n hx hb dX12_nextToken_144 rfl (lv_at hl 0 rfl) ?_
                refine pk_i (va_runS (As := [.int x_3987]) (rest := []) ⟨hx, hb, hml, hown, hts⟩ (s_X12_isLetter_x l D t σ I_3981 J ri rj rq H.size tg hSH hG.1 x_3987) (va_cwS 1 hts (tw_S tw_846 tw_847 tw_5 tw_848) rfl rfl rfl cd_yX12_isLetter_1 ⟨Nat.le_of_ble_eq_true rfl, Nat.le_of_ble_eq_true rfl⟩) ⟨pq_blind, pq_pre hK hN hP hD⟩ rfl rfl hl.1 rfl (lv_room (Nat.le_of_ble_eq_true rfl)) dX12_nextToken_145 ⟨Nat.le_of_ble_eq_true rfl, Nat.le_of_ble_eq_true rfl⟩) hD hS hA (fun x_4008 σ1 μ1 H locs hw_4009 hP hD hS => ?_)
                obtain ⟨hu_4010, hr_4012⟩ := hw_4009
                obtain ⟨hu_4010a, hu_4010b⟩ := Prod.mk.inj hu_4010
                rw [hu_4010a, hu_4010b] at hP hD
                have h_4013 : rg x_4008 0 1 := by rcases hr_4012 with ⟨q, -⟩ | ⟨q, -⟩ <;> rw [q] <;> exact ⟨by decide, by decide⟩
                have uh_4013 := h_4013.1
                have vh_4013 := h_4013.2
                refine lv_if_eq (tgt := 245) hx hb dX12_nextToken_148 (by decide) (fun c_4014 => ?_) (fun c_4014 => ?_)
                · have f_4015 := (hr_4012.resolve_left (fun q => absurd (q.1.symm.trans c_4014) (by decide))).2
                  have tc_4016 : (x_4008).toInt = 0 := congrArg Int32.toInt c_4014
                  have h_4017 : rg x_4008 0 0 := rg_and h_4013 (rg_of_eq c_4014 (rg_k (0 : Int32) 0 rfl)) (by decide)
                  have uh_4017 := h_4017.1
                  have vh_4017 := h_4017.2
                  refine lv_aload_n hx hb dX12_nextToken_245 rfl (lv_at hl 1 rfl) ?_
                  refine lv_dup hx hb dX12_nextToken_246 rfl ?_
                  refine pg_f (v := .int (I_3981 391 this)) (C := RX12) (T := TX12) (N := 31) hx hb hts (tw_i inlX12) hown hK hP hL_this hK_this (by decide) rfl 7 (by decide) (hts _ (tw_c tw_830)) rfl dX12_nextToken_247 ?_
                  refine lv_iconst (v := 1) hx hb dX12_nextToken_250 (by decide) ?_
                  have h_4018 : rg (I_3981 391 this) 0 299 := ⟨by omega, by omega⟩
                  have uh_4018 := h_4018.1
                  have vh_4018 := h_4018.2
                  refine lv_iadd hx hb dX12_nextToken_251 ?_
                  refine lv_topi (fun x_4019 ex_4019 => ?_)
                  have h_4020 : rg x_4019 1 300 := rg_of_eq ex_4019 (rg_add h_4018 (rg_k (1 : Int32) 1 rfl) (by decide))
                  have uh_4020 := h_4020.1
                  have vh_4020 := h_4020.2
                  have tx_4019 : (x_4019).toInt = (I_3981 391 this).toInt + 1 := by rw [ex_4019]; exact i_add_rg (a2 := (I_3981 391 this).toInt) (b2 := 1) rfl rfl h_4018 (rg_k (1 : Int32) 1 rfl) (by decide)
                  refine pp_i (v := x_4019) (ty := .int) (C := RX12) (T := TX12) (N := 31) hx hb hts (tw_i inlX12) tyX12 tyX12_ok nmX12 hown hK hP hD hS hL_this hK_this (by decide) rfl 7 391 (by decide) (hts _ (tw_c tw_830)) rfl (tyX12_ok 7 (by decide)) rfl rfl (Nat.le_of_ble_eq_true rfl) (ps_391 _ _ _ _ _) dX12_nextToken_252 (fun I_4021 H locs eI_4021 hP hD hS => ?_)
                  have hG := GM.wI hG 391 rfl eI_4021 (rg_w h_4020 (by decide)) (by decide)
                  have tt_4022 : (I_4021 391 this).toInt = (x_4019).toInt := by rw [eI_4021, pq_us]
                  have tt_4023 : (I_4021 388 this).toInt = (I_3981 388 this).toInt := by rw [eI_4021, pq_uf _ _ _ (by decide)]
                  have tt_4024 : (I_4021 403 this).toInt = (I_3981 403 this).toInt := by rw [eI_4021, pq_uf _ _ _ (by decide)]
                  have tt_4025 : (I_4021 393 this).toInt = (I_3981 393 this).toInt := by rw [eI_4021, pq_uf _ _ _ (by decide)]
                  refine lv_iload_n hx hb dX12_nextToken_255 rfl (lv_at hl 0 rfl) ?_
                  refine lv_bipush (v := 60) hx hb dX12_nextToken_256 (by decide) ?_
                  have K_4221 : ∀  (H : Heap) (locs : List Loc) (ls : Array Slot), GM [391, 392, 393] tg σ I ri I_4021 ri rq → va_P D vwCl (pq_P t σ (I_4021, J, ri, rj, rq)) H → va_D A (pq_P t σ (I_4021, J, ri, rj, rq)) → va_S A s.heap H locs → lv_has ls 3 [(0, .ref this), (1, .int x_3987)] → W p l e ({ frames := 2, cells := 0, slots := 0, locals := 42 } : Room) s m (List.toArray ([.ref this] : List Value)) below meth c H locs 0 0 Q (F0 m 332 ls [.int 0]) := by
                    intro H locs ls hG hP hD hS hl
                    refine lv_istore_n (lv' := [(2, .int 0), (0, .ref this), (1, .int x_3987)]) hx hb dX12_nextToken_332 rfl hl (by decide) rfl (fun ls hl => ?_)
                    refine lv_aload_n hx hb dX12_nextToken_333 rfl (lv_at hl 1 rfl) ?_
                    refine lv_iload_n hx hb dX12_nextToken_334 rfl (lv_at hl 0 rfl) ?_
                    have K_4294 : ∀  (H : Heap) (locs : List Loc) (ls : Array Slot), GM [391, 392, 393] tg σ I ri I_4021 ri rq → va_P D vwCl (pq_P t σ (I_4021, J, ri, rj, rq)) H → va_D A (pq_P t σ (I_4021, J, ri, rj, rq)) → va_S A s.heap H locs → lv_has ls 3 [(0, .ref this), (1, .int x_3987)] → W p l e ({ frames := 2, cells := 0, slots := 0, locals := 42 } : Room) s m (List.toArray ([.ref this] : List Value)) below meth c H locs 0 0 Q (F0 m 343 ls [.int 3, .ref this]) := by
                      intro H locs ls hG hP hD hS hl
                      refine pp_i (v := 3) (ty := .int) (C := RX12) (T := TX12) (N := 31) hx hb hts (tw_i inlX12) tyX12 tyX12_ok nmX12 hown hK hP hD hS hL_this hK_this (by decide) rfl 9 393 (by decide) (hts _ (tw_c tw_831)) rfl (tyX12_ok 9 (by decide)) rfl rfl (Nat.le_of_ble_eq_true rfl) (ps_393 _ _ _ _ _) dX12_nextToken_343 (fun I_4295 H locs eI_4295 hP hD hS => ?_)
                      have hG := GM.wI hG 393 rfl eI_4295 (rg_w (rg_k (3 : Int32) 3 rfl) (by decide)) (by decide)
                      have tt_4296 : (I_4295 391 this).toInt = (I_4021 391 this).toInt := by rw [eI_4295, pq_uf _ _ _ (by decide)]
                      have tt_4297 : (I_4295 388 this).toInt = (I_4021 388 this).toInt := by rw [eI_4295, pq_uf _ _ _ (by decide)]
                      have tt_4298 : (I_4295 403 this).toInt = (I_4021 403 this).toInt := by rw [eI_4295, pq_uf _ _ _ (by decide)]
                      have tt_4299 : (I_4295 393 this).toInt = 3 := by rw [eI_4295, pq_us]; rfl
                      refine lv_iload_n hx hb dX12_nextToken_346 rfl (lv_at hl 1 rfl) ?_
                      refine lv_bipush (v := 60) hx hb dX12_nextToken_347 (by decide) ?_
                      refine lv_icmp_eq (tgt := 358) hx hb dX12_nextToken_349 (by decide) (fun c_4300 => ?_) (fun c_4300 => ?_)
                      · have tc_4301 : (x_3987).toInt = 60 := congrArg Int32.toInt c_4300
                        have h_4302 : rg x_3987 60 60 := rg_and h_3997 (rg_of_eq c_4300 (rg_k (60 : Int32) 60 rfl)) (by decide)
                        have uh_4302 := h_4302.1
                        have vh_4302 := h_4302.2
                        refine lv_aload_n hx hb dX12_nextToken_358 rfl (lv_at hl 0 rfl) ?_
                        refine lv_aload_n hx hb dX12_nextToken_359 rfl (lv_at hl 0 rfl) ?_
                        refine pg_f (v := .int (I_4295 391 this)) (C := RX12) (T := TX12) (N := 31) hx hb hts (tw_i inlX12) hown hK hP hL_this hK_this (by decide) rfl 7 (by decide) (hts _ (tw_c tw_830)) rfl dX12_nextToken_360 ?_
                        have h_4303 : rg (I_4295 391 this) 1 300 := (by rw [eI_4295, pq_uf _ _ _ (by decide)]; exact (by rw [eI_4021, pq_us]; exact h_4020))
                        have uh_4303 := h_4303.1
                        have vh_4303 := h_4303.2
                        refine pk_i (va_runV (As := [.int (I_4295 391 this)]) (rest := []) ⟨hx, hb, hml, hown, hts⟩ (s_X12_see_x l D t σ I_4295 J ri rj rq H.size tg hSH hG.1 this (I_4295 391 this) hL_this hK_this (rg_w h_4303 (by decide)) this_tape hR_this_tape hL_this_tape hK_this_tape hN_this_tape hT_this_tape) (cwV 1 hts (tw_V tw_839 tw_840 tw_841 tw_5 tw_842) rfl rfl rfl cv_yX12_see_1 ⟨Nat.le_of_ble_eq_true rfl, Nat.le_of_ble_eq_true rfl⟩) ⟨pq_blind, pq_recv hK hP hL_this hK_this (by decide) rfl, pq_pre hK hN hP hD⟩ rfl rfl hl.1 rfl (lv_room (Nat.le_of_ble_eq_true rfl)) dX12_nextToken_363 ⟨Nat.le_of_ble_eq_true rfl, Nat.le_of_ble_eq_true rfl⟩) hD hS hA (fun x_4304 σ1 μ1 H locs hw_4305 hP hD hS => ?_)
                        obtain ⟨hu_4306, hp_4309, hr_4308⟩ := hw_4305
                        obtain ⟨hu_4306a, hu_4306b⟩ := Prod.mk.inj hu_4306
                        rw [hu_4306a, hu_4306b] at hP hD
                        have tt_4310 : ((x_4304).toInt = -1 ∧ (I_4295 388 this).toInt ≤ (I_4295 391 this).toInt) ∨ (0 ≤ (x_4304).toInt ∧ (I_4295 391 this).toInt < (I_4295 388 this).toInt) := hp_4309.elim Or.inl (fun q => Or.inr q.2)
                        have tt_4311 := (GM.rI hG 388 (a := this) (lo := 0) (hi := 300) rfl).2
                        refine lv_bipush (v := 61) hx hb dX12_nextToken_366 (by decide) ?_
                        refine lv_icmp_ne (tgt := 396) hx hb dX12_nextToken_368 (by decide) (fun c_4312 => ?_) (fun c_4312 => ?_)
                        · have tc_4313 : (x_4304).toInt ≠ 61 := fun q => c_4312 (Int32.toInt_inj.mp q)
                          subst hQ
                          exact W.vret hx hb hr (fun t1 ht hW => ⟨⟨(σ, I_4295, J, ri, rj, rq), rfl, ⟨I_4295, J, rfl, hG, (by omega), (by omega), (by omega)⟩, by rw [ht]; exact hP, va_K.moved hW.alike hK, hD⟩, hS.F ht⟩) hS.2.2 dX12_nextToken_396
                        · have tc_4314 : (x_4304).toInt = 61 := congrArg Int32.toInt c_4312
                          have h_4315 : rg x_4304 61 61 := rg_and hr_4308 (rg_of_eq c_4312 (rg_k (61 : Int32) 61 rfl)) (by decide)
                          have uh_4315 := h_4315.1
                          have vh_4315 := h_4315.2
                          refine lv_aload_n hx hb dX12_nextToken_371 rfl (lv_at hl 0 rfl) ?_
                          refine lv_dup hx hb dX12_nextToken_372 rfl ?_
                          refine pg_f (v := .int (I_4295 391 this)) (C := RX12) (T := TX12) (N := 31) hx hb hts (tw_i inlX12) hown hK hP hL_this hK_this (by decide) rfl 7 (by decide) (hts _ (tw_c tw_830)) rfl dX12_nextToken_373 ?_
                          refine lv_iconst (v := 1) hx hb dX12_nextToken_376 (by decide) ?_
                          have h_4316 : rg (I_4295 391 this) 0 299 := ⟨by omega, by omega⟩
                          have uh_4316 := h_4316.1
                          have vh_4316 := h_4316.2
                          refine lv_iadd hx hb dX12_nextToken_377 ?_
                          refine lv_topi (fun x_4317 ex_4317 => ?_)
                          have h_4318 : rg x_4317 1 300 := rg_of_eq ex_4317 (rg_add h_4316 (rg_k (1 : Int32) 1 rfl) (by decide))
                          have uh_4318 := h_4318.1
                          have vh_4318 := h_4318.2
                          have tx_4317 : (x_4317).toInt = (I_4295 391 this).toInt + 1 := by rw [ex_4317]; exact i_add_rg (a2 := (I_4295 391 this).toInt) (b2 := 1) rfl rfl h_4316 (rg_k (1 : Int32) 1 rfl) (by decide)
                          refine pp_i (v := x_4317) (ty := .int) (C := RX12) (T := TX12) (N := 31) hx hb hts (tw_i inlX12) tyX12 tyX12_ok nmX12 hown hK hP hD hS hL_this hK_this (by decide) rfl 7 391 (by decide) (hts _ (tw_c tw_830)) rfl (tyX12_ok 7 (by decide)) rfl rfl (Nat.le_of_ble_eq_true rfl) (ps_391 _ _ _ _ _) dX12_nextToken_378 (fun I_4319 H locs eI_4319 hP hD hS => ?_)
                          have hG := GM.wI hG 391 rfl eI_4319 (rg_w h_4318 (by decide)) (by decide)
                          have tt_4320 : (I_4319 391 this).toInt = (x_4317).toInt := by rw [eI_4319, pq_us]
                          have tt_4321 : (I_4319 388 this).toInt = (I_4295 388 this).toInt := by rw [eI_4319, pq_uf _ _ _ (by decide)]
                          have tt_4322 : (I_4319 403 this).toInt = (I_4295 403 this).toInt := by rw [eI_4319, pq_uf _ _ _ (by decide)]
                          have tt_4323 : (I_4319 393 this).toInt = (I_4295 393 this).toInt := by rw [eI_4319, pq_uf _ _ _ (by decide)]
                          refine lv_aload_n hx hb dX12_nextToken_381 rfl (lv_at hl 0 rfl) ?_
                          refine lv_iload_n hx hb dX12_nextToken_382 rfl (lv_at hl 1 rfl) ?_
                          refine lv_bipush (v := 60) hx hb dX12_nextToken_383 (by decide) ?_
                          refine lv_icmp_ne (tgt := 392) hx hb dX12_nextToken_385 (by decide) (fun c_4324 => ?_) (fun c_4324 => ?_)
                          · have tc_4325 : (x_3987).toInt ≠ 60 := fun q => c_4324 (Int32.toInt_inj.mp q)
                            exact (rg_empty (rg_ne c_4324 h_4302 60 rfl (lo := 61) (hi := 59) (by decide)) (by decide)).elim
                          · have tc_4326 : (x_3987).toInt = 60 := congrArg Int32.toInt c_4324
                            refine lv_iconst (v := 4) hx hb dX12_nextToken_388 (by decide) ?_
                            refine lv_goto (tgt := 393) hx hb dX12_nextToken_389 (by decide) ?_
                            refine pp_i (v := 4) (ty := .int) (C := RX12) (T := TX12) (N := 31) hx hb hts (tw_i inlX12) tyX12 tyX12_ok nmX12 hown hK hP hD hS hL_this hK_this (by decide) rfl 9 393 (by decide) (hts _ (tw_c tw_831)) rfl (tyX12_ok 9 (by decide)) rfl rfl (Nat.le_of_ble_eq_true rfl) (ps_393 _ _ _ _ _) dX12_nextToken_393 (fun I_4327 H locs eI_4327 hP hD hS => ?_)
                            have hG := GM.wI hG 393 rfl eI_4327 (rg_w (rg_k (4 : Int32) 4 rfl) (by decide)) (by decide)
                            have tt_4328 : (I_4327 391 this).toInt = (I_4319 391 this).toInt := by rw [eI_4327, pq_uf _ _ _ (by decide)]
                            have tt_4329 : (I_4327 388 this).toInt = (I_4319 388 this).toInt := by rw [eI_4327, pq_uf _ _ _ (by decide)]
                            have tt_4330 : (I_4327 403 this).toInt = (I_4319 403 this).toInt := by rw [eI_4327, pq_uf _ _ _ (by decide)]
                            have tt_4331 : (I_4327 393 this).toInt = 4 := by rw [eI_4327, pq_us]; rfl
                            subst hQ
                            exact W.vret hx hb hr (fun t1 ht hW => ⟨⟨(σ, I_4327, J, ri, rj, rq), rfl, ⟨I_4327, J, rfl, hG, (by omega), (by omega), (by omega)⟩, by rw [ht]; exact hP, va_K.moved hW.alike hK, hD⟩, hS.F ht⟩) hS.2.2 dX12_nextToken_396
                      · have tc_4332 : (x_3987).toInt ≠ 60 := fun q => c_4300 (Int32.toInt_inj.mp q)
                        refine lv_iload_n hx hb dX12_nextToken_352 rfl (lv_at hl 1 rfl) ?_
                        refine lv_bipush (v := 62) hx hb dX12_nextToken_353 (by decide) ?_
                        refine lv_icmp_ne (tgt := 396) hx hb dX12_nextToken_355 (by decide) (fun c_4333 => ?_) (fun c_4333 => ?_)
                        · have tc_4334 : (x_3987).toInt ≠ 62 := fun q => c_4333 (Int32.toInt_inj.mp q)
                          subst hQ
                          exact W.vret hx hb hr (fun t1 ht hW => ⟨⟨(σ, I_4295, J, ri, rj, rq), rfl, ⟨I_4295, J, rfl, hG, (by omega), (by omega), (by omega)⟩, by rw [ht]; exact hP, va_K.moved hW.alike hK, hD⟩, hS.F ht⟩) hS.2.2 dX12_nextToken_396
                        · have tc_4335 : (x_3987).toInt = 62 := congrArg Int32.toInt c_4333
                          have h_4336 : rg x_3987 62 62 := rg_and h_3997 (rg_of_eq c_4333 (rg_k (62 : Int32) 62 rfl)) (by decide)
                          have uh_4336 := h_4336.1
                          have vh_4336 := h_4336.2
                          refine lv_aload_n hx hb dX12_nextToken_358 rfl (lv_at hl 0 rfl) ?_
                          refine lv_aload_n hx hb dX12_nextToken_359 rfl (lv_at hl 0 rfl) ?_
                          refine pg_f (v := .int (I_4295 391 this)) (C := RX12) (T := TX12) (N := 31) hx hb hts (tw_i inlX12) hown hK hP hL_this hK_this (by decide) rfl 7 (by decide) (hts _ (tw_c tw_830)) rfl dX12_nextToken_360 ?_
                          have h_4337 : rg (I_4295 391 this) 1 300 := (by rw [eI_4295, pq_uf _ _ _ (by decide)]; exact (by rw [eI_4021, pq_us]; exact h_4020))
                          have uh_4337 := h_4337.1
                          have vh_4337 := h_4337.2
                          refine pk_i (va_runV (As := [.int (I_4295 391 this)]) (rest := []) ⟨hx, hb, hml, hown, hts⟩ (s_X12_see_x l D t σ I_4295 J ri rj rq H.size tg hSH hG.1 this (I_4295 391 this) hL_this hK_this (rg_w h_4337 (by decide)) this_tape hR_this_tape hL_this_tape hK_this_tape hN_this_tape hT_this_tape) (cwV 1 hts (tw_V tw_839 tw_840 tw_841 tw_5 tw_842) rfl rfl rfl cv_yX12_see_1 ⟨Nat.le_of_ble_eq_true rfl, Nat.le_of_ble_eq_true rfl⟩) ⟨pq_blind, pq_recv hK hP hL_this hK_this (by decide) rfl, pq_pre hK hN hP hD⟩ rfl rfl hl.1 rfl (lv_room (Nat.le_of_ble_eq_true rfl)) dX12_nextToken_363 ⟨Nat.le_of_ble_eq_true rfl, Nat.le_of_ble_eq_true rfl⟩) hD hS hA (fun x_4338 σ1 μ1 H locs hw_4339 hP hD hS => ?_)
                          obtain ⟨hu_4340, hp_4343, hr_4342⟩ := hw_4339
                          obtain ⟨hu_4340a, hu_4340b⟩ := Prod.mk.inj hu_4340
                          rw [hu_4340a, hu_4340b] at hP hD
                          have tt_4344 : ((x_4338).toInt = -1 ∧ (I_4295 388 this).toInt ≤ (I_4295 391 this).toInt) ∨ (0 ≤ (x_4338).toInt ∧ (I_4295 391 this).toInt < (I_4295 388 this).toInt) := hp_4343.elim Or.inl (fun q => Or.inr q.2)
                          have tt_4345 := (GM.rI hG 388 (a := this) (lo := 0) (hi := 300) rfl).2
                          refine lv_bipush (v := 61) hx hb dX12_nextToken_366 (by decide) ?_
                          refine lv_icmp_ne (tgt := 396) hx hb dX12_nextToken_368 (by decide) (fun c_4346 => ?_) (fun c_4346 => ?_)
                          · have tc_4347 : (x_4338).toInt ≠ 61 := fun q => c_4346 (Int32.toInt_inj.mp q)
                            subst hQ
                            exact W.vret hx hb hr (fun t1 ht hW => ⟨⟨(σ, I_4295, J, ri, rj, rq), rfl, ⟨I_4295, J, rfl, hG, (by omega), (by omega), (by omega)⟩, by rw [ht]; exact hP, va_K.moved hW.alike hK, hD⟩, hS.F ht⟩) hS.2.2 dX12_nextToken_396
                          · have tc_4348 : (x_4338).toInt = 61 := congrArg Int32.toInt c_4346
                            have h_4349 : rg x_4338 61 61 := rg_and hr_4342 (rg_of_eq c_4346 (rg_k (61 : Int32) 61 rfl)) (by decide)
                            have uh_4349 := h_4349.1
                            have vh_4349 := h_4349.2
                            refine lv_aload_n hx hb dX12_nextToken_371 rfl (lv_at hl 0 rfl) ?_
                            refine lv_dup hx hb dX12_nextToken_372 rfl ?_
                            refine pg_f (v := .int (I_4295 391 this)) (C := RX12) (T := TX12) (N := 31) hx hb hts (tw_i inlX12) hown hK hP hL_this hK_this (by decide) rfl 7 (by decide) (hts _ (tw_c tw_830)) rfl dX12_nextToken_373 ?_
                            refine lv_iconst (v := 1) hx hb dX12_nextToken_376 (by decide) ?_
                            have h_4350 : rg (I_4295 391 this) 0 299 := ⟨by omega, by omega⟩
                            have uh_4350 := h_4350.1
                            have vh_4350 := h_4350.2
                            refine lv_iadd hx hb dX12_nextToken_377 ?_
                            refine lv_topi (fun x_4351 ex_4351 => ?_)
                            have h_4352 : rg x_4351 1 300 := rg_of_eq ex_4351 (rg_add h_4350 (rg_k (1 : Int32) 1 rfl) (by decide))
                            have uh_4352 := h_4352.1
                            have vh_4352 := h_4352.2
                            have tx_4351 : (x_4351).toInt = (I_4295 391 this).toInt + 1 := by rw [ex_4351]; exact i_add_rg (a2 := (I_4295 391 this).toInt) (b2 := 1) rfl rfl h_4350 (rg_k (1 : Int32) 1 rfl) (by decide)
                            refine pp_i (v := x_4351) (ty := .int) (C := RX12) (T := TX12) (N := 31) hx hb hts (tw_i inlX12) tyX12 tyX12_ok nmX12 hown hK hP hD hS hL_this hK_this (by decide) rfl 7 391 (by decide) (hts _ (tw_c tw_830)) rfl (tyX12_ok 7 (by decide)) rfl rfl (Nat.le_of_ble_eq_true rfl) (ps_391 _ _ _ _ _) dX12_nextToken_378 (fun I_4353 H locs eI_4353 hP hD hS => ?_)
                            have hG := GM.wI hG 391 rfl eI_4353 (rg_w h_4352 (by decide)) (by decide)
                            have tt_4354 : (I_4353 391 this).toInt = (x_4351).toInt := by rw [eI_4353, pq_us]
                            have tt_4355 : (I_4353 388 this).toInt = (I_4295 388 this).toInt := by rw [eI_4353, pq_uf _ _ _ (by decide)]
                            have tt_4356 : (I_4353 403 this).toInt = (I_4295 403 this).toInt := by rw [eI_4353, pq_uf _ _ _ (by decide)]
                            have tt_4357 : (I_4353 393 this).toInt = (I_4295 393 this).toInt := by rw [eI_4353, pq_uf _ _ _ (by decide)]
                            refine lv_aload_n hx hb dX12_nextToken_381 rfl (lv_at hl 0 rfl) ?_
                            refine lv_iload_n hx hb dX12_nextToken_382 rfl (lv_at hl 1 rfl) ?_
                            refine lv_bipush (v := 60) hx hb dX12_nextToken_383 (by decide) ?_
                            refine lv_icmp_ne (tgt := 392) hx hb dX12_nextToken_385 (by decide) (fun c_4358 => ?_) (fun c_4358 => ?_)
                            · have tc_4359 : (x_3987).toInt ≠ 60 := fun q => c_4358 (Int32.toInt_inj.mp q)
                              refine lv_iconst (v := 5) hx hb dX12_nextToken_392 (by decide) ?_
                              refine pp_i (v := 5) (ty := .int) (C := RX12) (T := TX12) (N := 31) hx hb hts (tw_i inlX12) tyX12 tyX12_ok nmX12 hown hK hP hD hS hL_this hK_this (by decide) rfl 9 393 (by decide) (hts _ (tw_c tw_831)) rfl (tyX12_ok 9 (by decide)) rfl rfl (Nat.le_of_ble_eq_true rfl) (ps_393 _ _ _ _ _) dX12_nextToken_393 (fun I_4360 H locs eI_4360 hP hD hS => ?_)
                              have hG := GM.wI hG 393 rfl eI_4360 (rg_w (rg_k (5 : Int32) 5 rfl) (by decide)) (by decide)
                              have tt_4361 : (I_4360 391 this).toInt = (I_4353 391 this).toInt := by rw [eI_4360, pq_uf _ _ _ (by decide)]
                              have tt_4362 : (I_4360 388 this).toInt = (I_4353 388 this).toInt := by rw [eI_4360, pq_uf _ _ _ (by decide)]
                              have tt_4363 : (I_4360 403 this).toInt = (I_4353 403 this).toInt := by rw [eI_4360, pq_uf _ _ _ (by decide)]
                              have tt_4364 : (I_4360 393 this).toInt = 5 := by rw [eI_4360, pq_us]; rfl
                              subst hQ
                              exact W.vret hx hb hr (fun t1 ht hW => ⟨⟨(σ, I_4360, J, ri, rj, rq), rfl, ⟨I_4360, J, rfl, hG, (by omega), (by omega), (by omega)⟩, by rw [ht]; exact hP, va_K.moved hW.alike hK, hD⟩, hS.F ht⟩) hS.2.2 dX12_nextToken_396
                            · have tc_4365 : (x_3987).toInt = 60 := congrArg Int32.toInt c_4358
                              exact (rg_empty (rg_and h_4336 (rg_of_eq c_4358 (rg_k (60 : Int32) 60 rfl)) (lo := 62) (hi := 60) (by decide)) (by decide)).elim
                    refine lv_if_eq (tgt := 342) hx hb dX12_nextToken_335 (by decide) (fun c_4366 => ?_) (fun c_4366 => absurd c_4366 (by decide))
                    refine lv_iconst (v := 3) hx hb dX12_nextToken_342 (by decide) ?_
                    exact K_4294 _ _ _ hG hP hD hS (lv_sub hl [1, 2] rfl)
                  have K_4367 : ∀  (H : Heap) (locs : List Loc) (ls : Array Slot), rg (x_3987) 35 62 → GM [391, 392, 393] tg σ I ri I_4021 ri rq → va_P D vwCl (pq_P t σ (I_4021, J, ri, rj, rq)) H → va_D A (pq_P t σ (I_4021, J, ri, rj, rq)) → va_S A s.heap H locs → lv_has ls 3 [(0, .ref this), (1, .int x_3987)] → W p l e ({ frames := 2, cells := 0, slots := 0, locals := 42 } : Room) s m (List.toArray ([.ref this] : List Value)) below meth c H locs 0 0 Q (F0 m 332 ls [.int 1]) := by
                    intro H locs ls h_4369 hG hP hD hS hl
                    have uh_4369 := h_4369.1
                    have vh_4369 := h_4369.2
                    refine lv_istore_n (lv' := [(2, .int 1), (0, .ref this), (1, .int x_3987)]) hx hb dX12_nextToken_332 rfl hl (by decide) rfl (fun ls hl => ?_)
                    refine lv_aload_n hx hb dX12_nextToken_333 rfl (lv_at hl 1 rfl) ?_
                    refine lv_iload_n hx hb dX12_nextToken_334 rfl (lv_at hl 0 rfl) ?_
                    have K_4443 : ∀  (H : Heap) (locs : List Loc) (ls : Array Slot), GM [391, 392, 393] tg σ I ri I_4021 ri rq → va_P D vwCl (pq_P t σ (I_4021, J, ri, rj, rq)) H → va_D A (pq_P t σ (I_4021, J, ri, rj, rq)) → va_S A s.heap H locs → lv_has ls 3 [(0, .ref this), (1, .int x_3987)] → W p l e ({ frames := 2, cells := 0, slots := 0, locals := 42 } : Room) s m (List.toArray ([.ref this] : List Value)) below meth c H locs 0 0 Q (F0 m 343 ls [.int x_3987, .ref this]) := by
                      intro H locs ls hG hP hD hS hl
                      refine pp_i (v := x_3987) (ty := .int) (C := RX12) (T := TX12) (N := 31) hx hb hts (tw_i inlX12) tyX12 tyX12_ok nmX12 hown hK hP hD hS hL_this hK_this (by decide) rfl 9 393 (by decide) (hts _ (tw_c tw_831)) rfl (tyX12_ok 9 (by decide)) rfl rfl (Nat.le_of_ble_eq_true rfl) (ps_393 _ _ _ _ _) dX12_nextToken_343 (fun I_4444 H locs eI_4444 hP hD hS => ?_)
                      have hG := GM.wI hG 393 rfl eI_4444 (rg_w h_4369 (by decide)) (by decide)
                      have tt_4445 : (I_4444 391 this).toInt = (I_4021 391 this).toInt := by rw [eI_4444, pq_uf _ _ _ (by decide)]
                      have tt_4446 : (I_4444 388 this).toInt = (I_4021 388 this).toInt := by rw [eI_4444, pq_uf _ _ _ (by decide)]
                      have tt_4447 : (I_4444 403 this).toInt = (I_4021 403 this).toInt := by rw [eI_4444, pq_uf _ _ _ (by decide)]
                      have tt_4448 : (I_4444 393 this).toInt = (x_3987).toInt := by rw [eI_4444, pq_us]
                      refine lv_iload_n hx hb dX12_nextToken_346 rfl (lv_at hl 1 rfl) ?_
                      refine lv_bipush (v := 60) hx hb dX12_nextToken_347 (by decide) ?_
                      refine lv_icmp_eq (tgt := 358) hx hb dX12_nextToken_349 (by decide) (fun c_4449 => ?_) (fun c_4449 => ?_)
                      · have tc_4450 : (x_3987).toInt = 60 := congrArg Int32.toInt c_4449
                        have h_4451 : rg x_3987 60 60 := rg_and h_4369 (rg_of_eq c_4449 (rg_k (60 : Int32) 60 rfl)) (by decide)
                        have uh_4451 := h_4451.1
                        have vh_4451 := h_4451.2
                        refine lv_aload_n hx hb dX12_nextToken_358 rfl (lv_at hl 0 rfl) ?_
                        refine lv_aload_n hx hb dX12_nextToken_359 rfl (lv_at hl 0 rfl) ?_
                        refine pg_f (v := .int (I_4444 391 this)) (C := RX12) (T := TX12) (N := 31) hx hb hts (tw_i inlX12) hown hK hP hL_this hK_this (by decide) rfl 7 (by decide) (hts _ (tw_c tw_830)) rfl dX12_nextToken_360 ?_
                        have h_4452 : rg (I_4444 391 this) 1 300 := (by rw [eI_4444, pq_uf _ _ _ (by decide)]; exact (by rw [eI_4021, pq_us]; exact h_4020))
                        have uh_4452 := h_4452.1
                        have vh_4452 := h_4452.2
                        refine pk_i (va_runV (As := [.int (I_4444 391 this)]) (rest := []) ⟨hx, hb, hml, hown, hts⟩ (s_X12_see_x l D t σ I_4444 J ri rj rq H.size tg hSH hG.1 this (I_4444 391 this) hL_this hK_this (rg_w h_4452 (by decide)) this_tape hR_this_tape hL_this_tape hK_this_tape hN_this_tape hT_this_tape) (cwV 1 hts (tw_V tw_839 tw_840 tw_841 tw_5 tw_842) rfl rfl rfl cv_yX12_see_1 ⟨Nat.le_of_ble_eq_true rfl, Nat.le_of_ble_eq_true rfl⟩) ⟨pq_blind, pq_recv hK hP hL_this hK_this (by decide) rfl, pq_pre hK hN hP hD⟩ rfl rfl hl.1 rfl (lv_room (Nat.le_of_ble_eq_true rfl)) dX12_nextToken_363 ⟨Nat.le_of_ble_eq_true rfl, Nat.le_of_ble_eq_true rfl⟩) hD hS hA (fun x_4453 σ1 μ1 H locs hw_4454 hP hD hS => ?_)
                        obtain ⟨hu_4455, hp_4458, hr_4457⟩ := hw_4454
                        obtain ⟨hu_4455a, hu_4455b⟩ := Prod.mk.inj hu_4455
                        rw [hu_4455a, hu_4455b] at hP hD
                        have tt_4459 : ((x_4453).toInt = -1 ∧ (I_4444 388 this).toInt ≤ (I_4444 391 this).toInt) ∨ (0 ≤ (x_4453).toInt ∧ (I_4444 391 this).toInt < (I_4444 388 this).toInt) := hp_4458.elim Or.inl (fun q => Or.inr q.2)
                        have tt_4460 := (GM.rI hG 388 (a := this) (lo := 0) (hi := 300) rfl).2
                        refine lv_bipush (v := 61) hx hb dX12_nextToken_366 (by decide) ?_
                        refine lv_icmp_ne (tgt := 396) hx hb dX12_nextToken_368 (by decide) (fun c_4461 => ?_) (fun c_4461 => ?_)
                        · have tc_4462 : (x_4453).toInt ≠ 61 := fun q => c_4461 (Int32.toInt_inj.mp q)
                          subst hQ
                          exact W.vret hx hb hr (fun t1 ht hW => ⟨⟨(σ, I_4444, J, ri, rj, rq), rfl, ⟨I_4444, J, rfl, hG, (by omega), (by omega), (by omega)⟩, by rw [ht]; exact hP, va_K.moved hW.alike hK, hD⟩, hS.F ht⟩) hS.2.2 dX12_nextToken_396
                        · have tc_4463 : (x_4453).toInt = 61 := congrArg Int32.toInt c_4461
                          have h_4464 : rg x_4453 61 61 := rg_and hr_4457 (rg_of_eq c_4461 (rg_k (61 : Int32) 61 rfl)) (by decide)
                          have uh_4464 := h_4464.1
                          have vh_4464 := h_4464.2
                          refine lv_aload_n hx hb dX12_nextToken_371 rfl (lv_at hl 0 rfl) ?_
                          refine lv_dup hx hb dX12_nextToken_372 rfl ?_
                          refine pg_f (v := .int (I_4444 391 this)) (C := RX12) (T := TX12) (N := 31) hx hb hts (tw_i inlX12) hown hK hP hL_this hK_this (by decide) rfl 7 (by decide) (hts _ (tw_c tw_830)) rfl dX12_nextToken_373 ?_
                          refine lv_iconst (v := 1) hx hb dX12_nextToken_376 (by decide) ?_
                          have h_4465 : rg (I_4444 391 this) 0 299 := ⟨by omega, by omega⟩
                          have uh_4465 := h_4465.1
                          have vh_4465 := h_4465.2
                          refine lv_iadd hx hb dX12_nextToken_377 ?_
                          refine lv_topi (fun x_4466 ex_4466 => ?_)
                          have h_4467 : rg x_4466 1 300 := rg_of_eq ex_4466 (rg_add h_4465 (rg_k (1 : Int32) 1 rfl) (by decide))
                          have uh_4467 := h_4467.1
                          have vh_4467 := h_4467.2
                          have tx_4466 : (x_4466).toInt = (I_4444 391 this).toInt + 1 := by rw [ex_4466]; exact i_add_rg (a2 := (I_4444 391 this).toInt) (b2 := 1) rfl rfl h_4465 (rg_k (1 : Int32) 1 rfl) (by decide)
                          refine pp_i (v := x_4466) (ty := .int) (C := RX12) (T := TX12) (N := 31) hx hb hts (tw_i inlX12) tyX12 tyX12_ok nmX12 hown hK hP hD hS hL_this hK_this (by decide) rfl 7 391 (by decide) (hts _ (tw_c tw_830)) rfl (tyX12_ok 7 (by decide)) rfl rfl (Nat.le_of_ble_eq_true rfl) (ps_391 _ _ _ _ _) dX12_nextToken_378 (fun I_4468 H locs eI_4468 hP hD hS => ?_)
                          have hG := GM.wI hG 391 rfl eI_4468 (rg_w h_4467 (by decide)) (by decide)
                          have tt_4469 : (I_4468 391 this).toInt = (x_4466).toInt := by rw [eI_4468, pq_us]
                          have tt_4470 : (I_4468 388 this).toInt = (I_4444 388 this).toInt := by rw [eI_4468, pq_uf _ _ _ (by decide)]
                          have tt_4471 : (I_4468 403 this).toInt = (I_4444 403 this).toInt := by rw [eI_4468, pq_uf _ _ _ (by decide)]
                          have tt_4472 : (I_4468 393 this).toInt = (I_4444 393 this).toInt := by rw [eI_4468, pq_uf _ _ _ (by decide)]
                          refine lv_aload_n hx hb dX12_nextToken_381 rfl (lv_at hl 0 rfl) ?_
                          refine lv_iload_n hx hb dX12_nextToken_382 rfl (lv_at hl 1 rfl) ?_
                          refine lv_bipush (v := 60) hx hb dX12_nextToken_383 (by decide) ?_
                          refine lv_icmp_ne (tgt := 392) hx hb dX12_nextToken_385 (by decide) (fun c_4473 => ?_) (fun c_4473 => ?_)
                          · have tc_4474 : (x_3987).toInt ≠ 60 := fun q => c_4473 (Int32.toInt_inj.mp q)
                            exact (rg_empty (rg_ne c_4473 h_4451 60 rfl (lo := 61) (hi := 59) (by decide)) (by decide)).elim
                          · have tc_4475 : (x_3987).toInt = 60 := congrArg Int32.toInt c_4473
                            refine lv_iconst (v := 4) hx hb dX12_nextToken_388 (by decide) ?_
                            refine lv_goto (tgt := 393) hx hb dX12_nextToken_389 (by decide) ?_
                            refine pp_i (v := 4) (ty := .int) (C := RX12) (T := TX12) (N := 31) hx hb hts (tw_i inlX12) tyX12 tyX12_ok nmX12 hown hK hP hD hS hL_this hK_this (by decide) rfl 9 393 (by decide) (hts _ (tw_c tw_831)) rfl (tyX12_ok 9 (by decide)) rfl rfl (Nat.le_of_ble_eq_true rfl) (ps_393 _ _ _ _ _) dX12_nextToken_393 (fun I_4476 H locs eI_4476 hP hD hS => ?_)
                            have hG := GM.wI hG 393 rfl eI_4476 (rg_w (rg_k (4 : Int32) 4 rfl) (by decide)) (by decide)
                            have tt_4477 : (I_4476 391 this).toInt = (I_4468 391 this).toInt := by rw [eI_4476, pq_uf _ _ _ (by decide)]
                            have tt_4478 : (I_4476 388 this).toInt = (I_4468 388 this).toInt := by rw [eI_4476, pq_uf _ _ _ (by decide)]
                            have tt_4479 : (I_4476 403 this).toInt = (I_4468 403 this).toInt := by rw [eI_4476, pq_uf _ _ _ (by decide)]
                            have tt_4480 : (I_4476 393 this).toInt = 4 := by rw [eI_4476, pq_us]; rfl
                            subst hQ
                            exact W.vret hx hb hr (fun t1 ht hW => ⟨⟨(σ, I_4476, J, ri, rj, rq), rfl, ⟨I_4476, J, rfl, hG, (by omega), (by omega), (by omega)⟩, by rw [ht]; exact hP, va_K.moved hW.alike hK, hD⟩, hS.F ht⟩) hS.2.2 dX12_nextToken_396
                      · have tc_4481 : (x_3987).toInt ≠ 60 := fun q => c_4449 (Int32.toInt_inj.mp q)
                        refine lv_iload_n hx hb dX12_nextToken_352 rfl (lv_at hl 1 rfl) ?_
                        refine lv_bipush (v := 62) hx hb dX12_nextToken_353 (by decide) ?_
                        refine lv_icmp_ne (tgt := 396) hx hb dX12_nextToken_355 (by decide) (fun c_4482 => ?_) (fun c_4482 => ?_)
                        · have tc_4483 : (x_3987).toInt ≠ 62 := fun q => c_4482 (Int32.toInt_inj.mp q)
                          have h_4484 : rg x_3987 35 61 := rg_ne c_4482 h_4369 62 rfl (by decide)
                          have uh_4484 := h_4484.1
                          have vh_4484 := h_4484.2
                          subst hQ
                          exact W.vret hx hb hr (fun t1 ht hW => ⟨⟨(σ, I_4444, J, ri, rj, rq), rfl, ⟨I_4444, J, rfl, hG, (by omega), (by omega), (by omega)⟩, by rw [ht]; exact hP, va_K.moved hW.alike hK, hD⟩, hS.F ht⟩) hS.2.2 dX12_nextToken_396
                        · have tc_4485 : (x_3987).toInt = 62 := congrArg Int32.toInt c_4482
                          have h_4486 : rg x_3987 62 62 := rg_and h_4369 (rg_of_eq c_4482 (rg_k (62 : Int32) 62 rfl)) (by decide)
                          have uh_4486 := h_4486.1
                          have vh_4486 := h_4486.2
                          refine lv_aload_n hx hb dX12_nextToken_358 rfl (lv_at hl 0 rfl) ?_
                          refine lv_aload_n hx hb dX12_nextToken_359 rfl (lv_at hl 0 rfl) ?_
                          refine pg_f (v := .int (I_4444 391 this)) (C := RX12) (T := TX12) (N := 31) hx hb hts (tw_i inlX12) hown hK hP hL_this hK_this (by decide) rfl 7 (by decide) (hts _ (tw_c tw_830)) rfl dX12_nextToken_360 ?_
                          have h_4487 : rg (I_4444 391 this) 1 300 := (by rw [eI_4444, pq_uf _ _ _ (by decide)]; exact (by rw [eI_4021, pq_us]; exact h_4020))
                          have uh_4487 := h_4487.1
                          have vh_4487 := h_4487.2
                          refine pk_i (va_runV (As := [.int (I_4444 391 this)]) (rest := []) ⟨hx, hb, hml, hown, hts⟩ (s_X12_see_x l D t σ I_4444 J ri rj rq H.size tg hSH hG.1 this (I_4444 391 this) hL_this hK_this (rg_w h_4487 (by decide)) this_tape hR_this_tape hL_this_tape hK_this_tape hN_this_tape hT_this_tape) (cwV 1 hts (tw_V tw_839 tw_840 tw_841 tw_5 tw_842) rfl rfl rfl cv_yX12_see_1 ⟨Nat.le_of_ble_eq_true rfl, Nat.le_of_ble_eq_true rfl⟩) ⟨pq_blind, pq_recv hK hP hL_this hK_this (by decide) rfl, pq_pre hK hN hP hD⟩ rfl rfl hl.1 rfl (lv_room (Nat.le_of_ble_eq_true rfl)) dX12_nextToken_363 ⟨Nat.le_of_ble_eq_true rfl, Nat.le_of_ble_eq_true rfl⟩) hD hS hA (fun x_4488 σ1 μ1 H locs hw_4489 hP hD hS => ?_)
                          obtain ⟨hu_4490, hp_4493, hr_4492⟩ := hw_4489
                          obtain ⟨hu_4490a, hu_4490b⟩ := Prod.mk.inj hu_4490
                          rw [hu_4490a, hu_4490b] at hP hD
                          have tt_4494 : ((x_4488).toInt = -1 ∧ (I_4444 388 this).toInt ≤ (I_4444 391 this).toInt) ∨ (0 ≤ (x_4488).toInt ∧ (I_4444 391 this).toInt < (I_4444 388 this).toInt) := hp_4493.elim Or.inl (fun q => Or.inr q.2)
                          have tt_4495 := (GM.rI hG 388 (a := this) (lo := 0) (hi := 300) rfl).2
                          refine lv_bipush (v := 61) hx hb dX12_nextToken_366 (by decide) ?_
                          refine lv_icmp_ne (tgt := 396) hx hb dX12_nextToken_368 (by decide) (fun c_4496 => ?_) (fun c_4496 => ?_)
                          · have tc_4497 : (x_4488).toInt ≠ 61 := fun q => c_4496 (Int32.toInt_inj.mp q)
                            subst hQ
                            exact W.vret hx hb hr (fun t1 ht hW => ⟨⟨(σ, I_4444, J, ri, rj, rq), rfl, ⟨I_4444, J, rfl, hG, (by omega), (by omega), (by omega)⟩, by rw [ht]; exact hP, va_K.moved hW.alike hK, hD⟩, hS.F ht⟩) hS.2.2 dX12_nextToken_396
                          · have tc_4498 : (x_4488).toInt = 61 := congrArg Int32.toInt c_4496
                            have h_4499 : rg x_4488 61 61 := rg_and hr_4492 (rg_of_eq c_4496 (rg_k (61 : Int32) 61 rfl)) (by decide)
                            have uh_4499 := h_4499.1
                            have vh_4499 := h_4499.2
                            refine lv_aload_n hx hb dX12_nextToken_371 rfl (lv_at hl 0 rfl) ?_
                            refine lv_dup hx hb dX12_nextToken_372 rfl ?_
                            refine pg_f (v := .int (I_4444 391 this)) (C := RX12) (T := TX12) (N := 31) hx hb hts (tw_i inlX12) hown hK hP hL_this hK_this (by decide) rfl 7 (by decide) (hts _ (tw_c tw_830)) rfl dX12_nextToken_373 ?_
                            refine lv_iconst (v := 1) hx hb dX12_nextToken_376 (by decide) ?_
                            have h_4500 : rg (I_4444 391 this) 0 299 := ⟨by omega, by omega⟩
                            have uh_4500 := h_4500.1
                            have vh_4500 := h_4500.2
                            refine lv_iadd hx hb dX12_nextToken_377 ?_
                            refine lv_topi (fun x_4501 ex_4501 => ?_)
                            have h_4502 : rg x_4501 1 300 := rg_of_eq ex_4501 (rg_add h_4500 (rg_k (1 : Int32) 1 rfl) (by decide))
                            have uh_4502 := h_4502.1
                            have vh_4502 := h_4502.2
                            have tx_4501 : (x_4501).toInt = (I_4444 391 this).toInt + 1 := by rw [ex_4501]; exact i_add_rg (a2 := (I_4444 391 this).toInt) (b2 := 1) rfl rfl h_4500 (rg_k (1 : Int32) 1 rfl) (by decide)
                            refine pp_i (v := x_4501) (ty := .int) (C := RX12) (T := TX12) (N := 31) hx hb hts (tw_i inlX12) tyX12 tyX12_ok nmX12 hown hK hP hD hS hL_this hK_this (by decide) rfl 7 391 (by decide) (hts _ (tw_c tw_830)) rfl (tyX12_ok 7 (by decide)) rfl rfl (Nat.le_of_ble_eq_true rfl) (ps_391 _ _ _ _ _) dX12_nextToken_378 (fun I_4503 H locs eI_4503 hP hD hS => ?_)
                            have hG := GM.wI hG 391 rfl eI_4503 (rg_w h_4502 (by decide)) (by decide)
                            have tt_4504 : (I_4503 391 this).toInt = (x_4501).toInt := by rw [eI_4503, pq_us]
                            have tt_4505 : (I_4503 388 this).toInt = (I_4444 388 this).toInt := by rw [eI_4503, pq_uf _ _ _ (by decide)]
                            have tt_4506 : (I_4503 403 this).toInt = (I_4444 403 this).toInt := by rw [eI_4503, pq_uf _ _ _ (by decide)]
                            have tt_4507 : (I_4503 393 this).toInt = (I_4444 393 this).toInt := by rw [eI_4503, pq_uf _ _ _ (by decide)]
                            refine lv_aload_n hx hb dX12_nextToken_381 rfl (lv_at hl 0 rfl) ?_
                            refine lv_iload_n hx hb dX12_nextToken_382 rfl (lv_at hl 1 rfl) ?_
                            refine lv_bipush (v := 60) hx hb dX12_nextToken_383 (by decide) ?_
                            refine lv_icmp_ne (tgt := 392) hx hb dX12_nextToken_385 (by decide) (fun c_4508 => ?_) (fun c_4508 => ?_)
                            · have tc_4509 : (x_3987).toInt ≠ 60 := fun q => c_4508 (Int32.toInt_inj.mp q)
                              refine lv_iconst (v := 5) hx hb dX12_nextToken_392 (by decide) ?_
                              refine pp_i (v := 5) (ty := .int) (C := RX12) (T := TX12) (N := 31) hx hb hts (tw_i inlX12) tyX12 tyX12_ok nmX12 hown hK hP hD hS hL_this hK_this (by decide) rfl 9 393 (by decide) (hts _ (tw_c tw_831)) rfl (tyX12_ok 9 (by decide)) rfl rfl (Nat.le_of_ble_eq_true rfl) (ps_393 _ _ _ _ _) dX12_nextToken_393 (fun I_4510 H locs eI_4510 hP hD hS => ?_)
                              have hG := GM.wI hG 393 rfl eI_4510 (rg_w (rg_k (5 : Int32) 5 rfl) (by decide)) (by decide)
                              have tt_4511 : (I_4510 391 this).toInt = (I_4503 391 this).toInt := by rw [eI_4510, pq_uf _ _ _ (by decide)]
                              have tt_4512 : (I_4510 388 this).toInt = (I_4503 388 this).toInt := by rw [eI_4510, pq_uf _ _ _ (by decide)]
                              have tt_4513 : (I_4510 403 this).toInt = (I_4503 403 this).toInt := by rw [eI_4510, pq_uf _ _ _ (by decide)]
                              have tt_4514 : (I_4510 393 this).toInt = 5 := by rw [eI_4510, pq_us]; rfl
                              subst hQ
                              exact W.vret hx hb hr (fun t1 ht hW => ⟨⟨(σ, I_4510, J, ri, rj, rq), rfl, ⟨I_4510, J, rfl, hG, (by omega), (by omega), (by omega)⟩, by rw [ht]; exact hP, va_K.moved hW.alike hK, hD⟩, hS.F ht⟩) hS.2.2 dX12_nextToken_396
                            · have tc_4515 : (x_3987).toInt = 60 := congrArg Int32.toInt c_4508
                              exact (rg_empty (rg_and h_4486 (rg_of_eq c_4508 (rg_k (60 : Int32) 60 rfl)) (lo := 62) (hi := 60) (by decide)) (by decide)).elim
                    refine lv_if_eq (tgt := 342) hx hb dX12_nextToken_335 (by decide) (fun c_4516 => absurd c_4516 (by decide)) (fun c_4516 => ?_)
                    refine lv_iload_n hx hb dX12_nextToken_338 rfl (lv_at hl 2 rfl) ?_
                    refine lv_goto (tgt := 343) hx hb dX12_nextToken_339 (by decide) ?_
                    exact K_4443 _ _ _ hG hP hD hS (lv_sub hl [1, 2] rfl)
                  have K_4517 : ∀  (H : Heap) (locs : List Loc) (ls : Array Slot), rg (x_3987) 35 62 → GM [391, 392, 393] tg σ I ri I_4021 ri rq → va_P D vwCl (pq_P t σ (I_4021, J, ri, rj, rq)) H → va_D A (pq_P t σ (I_4021, J, ri, rj, rq)) → va_S A s.heap H locs → lv_has ls 3 [(0, .ref this), (1, .int x_3987)] → W p l e ({ frames := 2, cells := 0, slots := 0, locals := 42 } : Room) s m (List.toArray ([.ref this] : List Value)) below meth c H locs 0 0 Q (F0 m 327 ls []) := by
                    intro H locs ls h_4519 hG hP hD hS hl
                    have uh_4519 := h_4519.1
                    have vh_4519 := h_4519.2
                    refine lv_iconst (v := 1) hx hb dX12_nextToken_327 (by decide) ?_
                    refine lv_goto (tgt := 332) hx hb dX12_nextToken_328 (by decide) ?_
                    exact K_4367 _ _ _ (rg_w h_4519 (by decide)) hG hP hD hS (lv_sub hl [0, 1] rfl)
                  refine lv_icmp_eq (tgt := 327) hx hb dX12_nextToken_258 (by decide) (fun c_4520 => ?_) (fun c_4520 => ?_)
                  · have tc_4521 : (x_3987).toInt = 60 := congrArg Int32.toInt c_4520
                    have h_4522 : rg x_3987 60 60 := rg_and h_3997 (rg_of_eq c_4520 (rg_k (60 : Int32) 60 rfl)) (by decide)
                    have uh_4522 := h_4522.1
                    have vh_4522 := h_4522.2
                    exact K_4517 _ _ _ (rg_w h_4522 (by decide)) hG hP hD hS (lv_sub hl [1, 0] rfl)
                  · have tc_4523 : (x_3987).toInt ≠ 60 := fun q => c_4520 (Int32.toInt_inj.mp q)
                    refine lv_iload_n hx hb dX12_nextToken_261 rfl (lv_at hl 0 rfl) ?_
                    refine lv_bipush (v := 62) hx hb dX12_nextToken_262 (by decide) ?_
                    refine lv_icmp_eq (tgt := 327) hx hb dX12_nextToken_264 (by decide) (fun c_4524 => ?_) (fun c_4524 => ?_)
                    · have tc_4525 : (x_3987).toInt = 62 := congrArg Int32.toInt c_4524
                      have h_4526 : rg x_3987 62 62 := rg_and h_3997 (rg_of_eq c_4524 (rg_k (62 : Int32) 62 rfl)) (by decide)
                      have uh_4526 := h_4526.1
                      have vh_4526 := h_4526.2
                      exact K_4517 _ _ _ (rg_w h_4526 (by decide)) hG hP hD hS (lv_sub hl [1, 0] rfl)
                    · have tc_4527 : (x_3987).toInt ≠ 62 := fun q => c_4524 (Int32.toInt_inj.mp q)
                      refine lv_iload_n hx hb dX12_nextToken_267 rfl (lv_at hl 0 rfl) ?_
                      refine lv_bipush (v := 61) hx hb dX12_nextToken_268 (by decide) ?_
                      refine lv_icmp_eq (tgt := 327) hx hb dX12_nextToken_270 (by decide) (fun c_4528 => ?_) (fun c_4528 => ?_)
                      · have tc_4529 : (x_3987).toInt = 61 := congrArg Int32.toInt c_4528
                        have h_4530 : rg x_3987 61 61 := rg_and h_3997 (rg_of_eq c_4528 (rg_k (61 : Int32) 61 rfl)) (by decide)
                        have uh_4530 := h_4530.1
                        have vh_4530 := h_4530.2
                        exact K_4517 _ _ _ (rg_w h_4530 (by decide)) hG hP hD hS (lv_sub hl [1, 0] rfl)
                      · have tc_4531 : (x_3987).toInt ≠ 61 := fun q => c_4528 (Int32.toInt_inj.mp q)
                        refine lv_iload_n hx hb dX12_nextToken_273 rfl (lv_at hl 0 rfl) ?_
                        refine lv_bipush (v := 35) hx hb dX12_nextToken_274 (by decide) ?_
                        refine lv_icmp_eq (tgt := 327) hx hb dX12_nextToken_276 (by decide) (fun c_4532 => ?_) (fun c_4532 => ?_)
                        · have tc_4533 : (x_3987).toInt = 35 := congrArg Int32.toInt c_4532
                          have h_4534 : rg x_3987 35 35 := rg_and h_3997 (rg_of_eq c_4532 (rg_k (35 : Int32) 35 rfl)) (by decide)
                          have uh_4534 := h_4534.1
                          have vh_4534 := h_4534.2
                          exact K_4517 _ _ _ (rg_w h_4534 (by decide)) hG hP hD hS (lv_sub hl [1, 0] rfl)
                        · have tc_4535 : (x_3987).toInt ≠ 35 := fun q => c_4532 (Int32.toInt_inj.mp q)
                          refine lv_iload_n hx hb dX12_nextToken_279 rfl (lv_at hl 0 rfl) ?_
                          refine lv_bipush (v := 43) hx hb dX12_nextToken_280 (by decide) ?_
                          refine lv_icmp_eq (tgt := 327) hx hb dX12_nextToken_282 (by decide) (fun c_4536 => ?_) (fun c_4536 => ?_)
                          · have tc_4537 : (x_3987).toInt = 43 := congrArg Int32.toInt c_4536
                            have h_4538 : rg x_3987 43 43 := rg_and h_3997 (rg_of_eq c_4536 (rg_k (43 : Int32) 43 rfl)) (by decide)
                            have uh_4538 := h_4538.1
                            have vh_4538 := h_4538.2
                            exact K_4517 _ _ _ (rg_w h_4538 (by decide)) hG hP hD hS (lv_sub hl [1, 0] rfl)
                          · have tc_4539 : (x_3987).toInt ≠ 43 := fun q => c_4536 (Int32.toInt_inj.mp q)
                            refine lv_iload_n hx hb dX12_nextToken_285 rfl (lv_at hl 0 rfl) ?_
                            refine lv_bipush (v := 45) hx hb dX12_nextToken_286 (by decide) ?_
                            refine lv_icmp_eq (tgt := 327) hx hb dX12_nextToken_288 (by decide) (fun c_4540 => ?_) (fun c_4540 => ?_)
                            · have tc_4541 : (x_3987).toInt = 45 := congrArg Int32.toInt c_4540
                              have h_4542 : rg x_3987 45 45 := rg_and h_3997 (rg_of_eq c_4540 (rg_k (45 : Int32) 45 rfl)) (by decide)
                              have uh_4542 := h_4542.1
                              have vh_4542 := h_4542.2
                              exact K_4517 _ _ _ (rg_w h_4542 (by decide)) hG hP hD hS (lv_sub hl [1, 0] rfl)
                            · have tc_4543 : (x_3987).toInt ≠ 45 := fun q => c_4540 (Int32.toInt_inj.mp q)
                              refine lv_iload_n hx hb dX12_nextToken_291 rfl (lv_at hl 0 rfl) ?_
                              refine lv_bipush (v := 42) hx hb dX12_nextToken_292 (by decide) ?_
                              refine lv_icmp_eq (tgt := 327) hx hb dX12_nextToken_294 (by decide) (fun c_4544 => ?_) (fun c_4544 => ?_)
                              · have tc_4545 : (x_3987).toInt = 42 := congrArg Int32.toInt c_4544
                                have h_4546 : rg x_3987 42 42 := rg_and h_3997 (rg_of_eq c_4544 (rg_k (42 : Int32) 42 rfl)) (by decide)
                                have uh_4546 := h_4546.1
                                have vh_4546 := h_4546.2
                                exact K_4517 _ _ _ (rg_w h_4546 (by decide)) hG hP hD hS (lv_sub hl [1, 0] rfl)
                              · have tc_4547 : (x_3987).toInt ≠ 42 := fun q => c_4544 (Int32.toInt_inj.mp q)
                                refine lv_iload_n hx hb dX12_nextToken_297 rfl (lv_at hl 0 rfl) ?_
                                refine lv_bipush (v := 47) hx hb dX12_nextToken_298 (by decide) ?_
                                refine lv_icmp_eq (tgt := 327) hx hb dX12_nextToken_300 (by decide) (fun c_4548 => ?_) (fun c_4548 => ?_)
                                · have tc_4549 : (x_3987).toInt = 47 := congrArg Int32.toInt c_4548
                                  have h_4550 : rg x_3987 47 47 := rg_and h_3997 (rg_of_eq c_4548 (rg_k (47 : Int32) 47 rfl)) (by decide)
                                  have uh_4550 := h_4550.1
                                  have vh_4550 := h_4550.2
                                  exact K_4517 _ _ _ (rg_w h_4550 (by decide)) hG hP hD hS (lv_sub hl [1, 0] rfl)
                                · have tc_4551 : (x_3987).toInt ≠ 47 := fun q => c_4548 (Int32.toInt_inj.mp q)
                                  refine lv_iload_n hx hb dX12_nextToken_303 rfl (lv_at hl 0 rfl) ?_
                                  refine lv_bipush (v := 40) hx hb dX12_nextToken_304 (by decide) ?_
                                  refine lv_icmp_eq (tgt := 327) hx hb dX12_nextToken_306 (by decide) (fun c_4552 => ?_) (fun c_4552 => ?_)
                                  · have tc_4553 : (x_3987).toInt = 40 := congrArg Int32.toInt c_4552
                                    have h_4554 : rg x_3987 40 40 := rg_and h_3997 (rg_of_eq c_4552 (rg_k (40 : Int32) 40 rfl)) (by decide)
                                    have uh_4554 := h_4554.1
                                    have vh_4554 := h_4554.2
                                    exact K_4517 _ _ _ (rg_w h_4554 (by decide)) hG hP hD hS (lv_sub hl [1, 0] rfl)
                                  · have tc_4555 : (x_3987).toInt ≠ 40 := fun q => c_4552 (Int32.toInt_inj.mp q)
                                    refine lv_iload_n hx hb dX12_nextToken_309 rfl (lv_at hl 0 rfl) ?_
                                    refine lv_bipush (v := 41) hx hb dX12_nextToken_310 (by decide) ?_
                                    refine lv_icmp_eq (tgt := 327) hx hb dX12_nextToken_312 (by decide) (fun c_4556 => ?_) (fun c_4556 => ?_)
                                    · have tc_4557 : (x_3987).toInt = 41 := congrArg Int32.toInt c_4556
                                      have h_4558 : rg x_3987 41 41 := rg_and h_3997 (rg_of_eq c_4556 (rg_k (41 : Int32) 41 rfl)) (by decide)
                                      have uh_4558 := h_4558.1
                                      have vh_4558 := h_4558.2
                                      exact K_4517 _ _ _ (rg_w h_4558 (by decide)) hG hP hD hS (lv_sub hl [1, 0] rfl)
                                    · have tc_4559 : (x_3987).toInt ≠ 41 := fun q => c_4556 (Int32.toInt_inj.mp q)
                                      refine lv_iload_n hx hb dX12_nextToken_315 rfl (lv_at hl 0 rfl) ?_
                                      refine lv_bipush (v := 44) hx hb dX12_nextToken_316 (by decide) ?_
                                      refine lv_icmp_eq (tgt := 327) hx hb dX12_nextToken_318 (by decide) (fun c_4560 => ?_) (fun c_4560 => ?_)
                                      · have tc_4561 : (x_3987).toInt = 44 := congrArg Int32.toInt c_4560
                                        have h_4562 : rg x_3987 44 44 := rg_and h_3997 (rg_of_eq c_4560 (rg_k (44 : Int32) 44 rfl)) (by decide)
                                        have uh_4562 := h_4562.1
                                        have vh_4562 := h_4562.2
                                        exact K_4517 _ _ _ (rg_w h_4562 (by decide)) hG hP hD hS (lv_sub hl [1, 0] rfl)
                                      · have tc_4563 : (x_3987).toInt ≠ 44 := fun q => c_4560 (Int32.toInt_inj.mp q)
                                        refine lv_iload_n hx hb dX12_nextToken_321 rfl (lv_at hl 0 rfl) ?_
                                        refine lv_bipush (v := 59) hx hb dX12_nextToken_322 (by decide) ?_
                                        refine lv_icmp_ne (tgt := 331) hx hb dX12_nextToken_324 (by decide) (fun c_4564 => ?_) (fun c_4564 => ?_)
                                        · have tc_4565 : (x_3987).toInt ≠ 59 := fun q => c_4564 (Int32.toInt_inj.mp q)
                                          refine lv_iconst (v := 0) hx hb dX12_nextToken_331 (by decide) ?_
                                          exact K_4221 _ _ _ hG hP hD hS (lv_sub hl [1, 0] rfl)
                                        · have tc_4566 : (x_3987).toInt = 59 := congrArg Int32.toInt c_4564
                                          have h_4567 : rg x_3987 59 59 := rg_and h_3997 (rg_of_eq c_4564 (rg_k (59 : Int32) 59 rfl)) (by decide)
                                          have uh_4567 := h_4567.1
                                          have vh_4567 := h_4567.2
                                          exact K_4517 _ _ _ (rg_w h_4567 (by decide)) hG hP hD hS (lv_sub hl [1, 0] rfl)
                · obtain ⟨f_4568, f_4569⟩ := (hr_4012.resolve_right (fun q => c_4014 q.1)).2
                  have uf_4568 := f_4568.1
                  have vf_4568 := f_4568.2
                  have tc_4570 : (x_4008).toInt ≠ 0 := fun q => c_4014 (Int32.toInt_inj.mp q)
                  have h_4571 : rg x_4008 1 1 := rg_ne c_4014 h_4013 0 rfl (by decide)
                  have uh_4571 := h_4571.1
                  have vh_4571 := h_4571.2
                  refine lv_aload_n hx hb dX12_nextToken_151 rfl (lv_at hl 1 rfl) ?_
                  refine lv_iconst (v := 2) hx hb dX12_nextToken_152 (by decide) ?_
                  refine pp_i (v := 2) (ty := .int) (C := RX12) (T := TX12) (N := 31) hx hb hts (tw_i inlX12) tyX12 tyX12_ok nmX12 hown hK hP hD hS hL_this hK_this (by decide) rfl 9 393 (by decide) (hts _ (tw_c tw_831)) rfl (tyX12_ok 9 (by decide)) rfl rfl (Nat.le_of_ble_eq_true rfl) (ps_393 _ _ _ _ _) dX12_nextToken_153 (fun I_4572 H locs eI_4572 hP hD hS => ?_)
                  have hG := GM.wI hG 393 rfl eI_4572 (rg_w (rg_k (2 : Int32) 2 rfl) (by decide)) (by decide)
                  have tt_4573 : (I_4572 391 this).toInt = (I_3981 391 this).toInt := by rw [eI_4572, pq_uf _ _ _ (by decide)]
                  have tt_4574 : (I_4572 388 this).toInt = (I_3981 388 this).toInt := by rw [eI_4572, pq_uf _ _ _ (by decide)]
                  have tt_4575 : (I_4572 403 this).toInt = (I_3981 403 this).toInt := by rw [eI_4572, pq_uf _ _ _ (by decide)]
                  have tt_4576 : (I_4572 393 this).toInt = 2 := by rw [eI_4572, pq_us]; rfl
                  refine lv_aload_n hx hb dX12_nextToken_156 rfl (lv_at hl 1 rfl) ?_
                  refine lv_lconst (v := 0) hx hb dX12_nextToken_157 (by decide) ?_
                  refine pp_l (v := 0) (C := RX12) (T := TX12) (N := 31) hx hb hts (tw_i inlX12) tyX12 tyX12_ok nmX12 hown hK hP hD hS hL_this hK_this (by decide) rfl 11 395 (by decide) (hts _ (tw_c tw_838)) rfl (tyX12_ok 11 (by decide)) (Nat.le_of_ble_eq_true rfl) (ps_395 _ _ _ _ _) dX12_nextToken_158 (fun J_4577 H locs eJ_4577 hP hD hS => ?_)
                  have L_4866 : ∀ (n_4865 : Nat) (I_4792 : Nat → Nat → Int32) (J_4793 : Nat → Nat → Int64) (H : Heap) (locs : List Loc) (ls : Array Slot), ((I_2958 391 this).toInt ≤ (I_4792 391 this).toInt ∧ (I_4792 388 this).toInt = (I 388 this).toInt ∧ (I_4792 403 this).toInt = (I 403 this).toInt) → (300 - (I_4792 391 this).toInt).toNat < n_4865 → GM [391, 392, 393] tg σ I ri I_4792 ri rq → va_P D vwCl (pq_P t σ (I_4792, J_4793, ri, rj, rq)) H → va_D A (pq_P t σ (I_4792, J_4793, ri, rj, rq)) → va_S A s.heap H locs → lv_has ls 3 [(0, .ref this)] → W p l e ({ frames := 2, cells := 0, slots := 0, locals := 42 } : Room) s m (List.toArray ([.ref this] : List Value)) below meth c H locs 0 0 Q (F0 m 161 ls []) := by
                    intro n_4865
                    induction n_4865 with
                    | zero => intro I_4792 J_4793 H locs ls hrel_4869 hm_4864 hG hP hD hS hl; exact absurd hm_4864 (Nat.not_lt_zero _)
                    | succ n_4865 ih_4867 =>
                      intro I_4792 J_4793 H locs ls hrel_4869 hm_4864 hG hP hD hS hl
                      refine lv_aload_n hx hb dX12_nextToken_161 rfl (lv_at hl 0 rfl) ?_
                      refine lv_aload_n hx hb dX12_nextToken_162 rfl (lv_at hl 0 rfl) ?_
                      refine pg_f (v := .int (I_4792 391 this)) (C := RX12) (T := TX12) (N := 31) hx hb hts (tw_i inlX12) hown hK hP hL_this hK_this (by decide) rfl 7 (by decide) (hts _ (tw_c tw_830)) rfl dX12_nextToken_163 ?_
                      have h_4870 : rg (I_4792 391 this) 0 300 := GM.rI hG 391 rfl
                      have uh_4870 := h_4870.1
                      have vh_4870 := h_4870.2
                      refine pk_i (va_runV (As := [.int (I_4792 391 this)]) (rest := []) ⟨hx, hb, hml, hown, hts⟩ (s_X12_see_x l D t σ I_4792 J_4793 ri rj rq H.size tg hSH hG.1 this (I_4792 391 this) hL_this hK_this (rg_w h_4870 (by decide)) this_tape hR_this_tape hL_this_tape hK_this_tape hN_this_tape hT_this_tape) (cwV 1 hts (tw_V tw_839 tw_840 tw_841 tw_5 tw_842) rfl rfl rfl cv_yX12_see_1 ⟨Nat.le_of_ble_eq_true rfl, Nat.le_of_ble_eq_true rfl⟩) ⟨pq_blind, pq_recv hK hP hL_this hK_this (by decide) rfl, pq_pre hK hN hP hD⟩ rfl rfl hl.1 rfl (lv_room (Nat.le_of_ble_eq_true rfl)) dX12_nextToken_166 ⟨Nat.le_of_ble_eq_true rfl, Nat.le_of_ble_eq_true rfl⟩) hD hS hA (fun x_4871 σ1 μ1 H locs hw_4872 hP hD hS => ?_)
                      obtain ⟨hu_4873, hp_4876, hr_4875⟩ := hw_4872
                      obtain ⟨hu_4873a, hu_4873b⟩ := Prod.mk.inj hu_4873
                      rw [hu_4873a, hu_4873b] at hP hD
                      have tt_4877 : ((x_4871).toInt = -1 ∧ (I_4792 388 this).toInt ≤ (I_4792 391 this).toInt) ∨ (0 ≤ (x_4871).toInt ∧ (I_4792 391 this).toInt < (I_4792 388 this).toInt) := hp_4876.elim Or.inl (fun q => Or.inr q.2)
                      have tt_4878 := (GM.rI hG 388 (a := this) (lo := 0) (hi := 300) rfl).2
                      have tt_4879 : (I_4792 391 this).toInt = (I_3981 391 this).toInt → (x_4871).toInt = (x_3987).toInt := fun q => by have e := Int32.toInt_inj.mp q; rcases hp_3992 with ⟨a, b⟩ | ⟨a, b, c⟩ <;> rcases hp_4876 with ⟨a2, b2⟩ | ⟨a2, b2, c2⟩ <;> first | omega | (rw [a, a2, e])
                      refine pk_i (va_runS (As := [.int x_4871]) (rest := []) ⟨hx, hb, hml, hown, hts⟩ (s_X12_isLetter_x l D t σ I_4792 J_4793 ri rj rq H.size tg hSH hG.1 x_4871) (va_cwS 1 hts (tw_S tw_846 tw_847 tw_5 tw_848) rfl rfl rfl cd_yX12_isLetter_1 ⟨Nat.le_of_ble_eq_true rfl, Nat.le_of_ble_eq_true rfl⟩) ⟨pq_blind, pq_pre hK hN hP hD⟩ rfl rfl hl.1 rfl (lv_room (Nat.le_of_ble_eq_true rfl)) dX12_nextToken_169 ⟨Nat.le_of_ble_eq_true rfl, Nat.le_of_ble_eq_true rfl⟩) hD hS hA (fun x_4880 σ1 μ1 H locs hw_4881 hP hD hS => ?_)
                      obtain ⟨hu_4882, hr_4884⟩ := hw_4881
                      obtain ⟨hu_4882a, hu_4882b⟩ := Prod.mk.inj hu_4882
                      rw [hu_4882a, hu_4882b] at hP hD
                      have h_4885 : rg x_4880 0 1 := by rcases hr_4884 with ⟨q, -⟩ | ⟨q, -⟩ <;> rw [q] <;> exact ⟨by decide, by decide⟩
                      have uh_4885 := h_4885.1
                      have vh_4885 := h_4885.2
                      refine lv_if_eq (tgt := 223) hx hb dX12_nextToken_172 (by decide) (fun c_4886 => ?_) (fun c_4886 => ?_)
                      · have f_4887 := (hr_4884.resolve_left (fun q => absurd (q.1.symm.trans c_4886) (by decide))).2
                        have tc_4888 : (x_4880).toInt = 0 := congrArg Int32.toInt c_4886
                        have h_4889 : rg x_4880 0 0 := rg_and h_4885 (rg_of_eq c_4886 (rg_k (0 : Int32) 0 rfl)) (by decide)
                        have uh_4889 := h_4889.1
                        have vh_4889 := h_4889.2
                        refine lv_aload_n hx hb dX12_nextToken_223 rfl (lv_at hl 0 rfl) ?_
                        refine pg_f (v := .int (I_4792 391 this)) (C := RX12) (T := TX12) (N := 31) hx hb hts (tw_i inlX12) hown hK hP hL_this hK_this (by decide) rfl 7 (by decide) (hts _ (tw_c tw_830)) rfl dX12_nextToken_224 ?_
                        refine lv_aload_n hx hb dX12_nextToken_227 rfl (lv_at hl 0 rfl) ?_
                        refine pg_f (v := .int (I_4792 392 this)) (C := RX12) (T := TX12) (N := 31) hx hb hts (tw_i inlX12) hown hK hP hL_this hK_this (by decide) rfl 8 (by decide) (hts _ (tw_c tw_820)) rfl dX12_nextToken_228 ?_
                        have h_4890 : rg (I_4792 392 this) 0 300 := GM.rI hG 392 rfl
                        have uh_4890 := h_4890.1
                        have vh_4890 := h_4890.2
                        refine lv_isub hx hb dX12_nextToken_231 ?_
                        refine lv_topi (fun x_4891 ex_4891 => ?_)
                        have h_4892 : rg x_4891 (-300) 300 := rg_of_eq ex_4891 (rg_sub h_4870 h_4890 (by decide))
                        have uh_4892 := h_4892.1
                        have vh_4892 := h_4892.2
                        have tx_4891 : (x_4891).toInt = (I_4792 391 this).toInt - (I_4792 392 this).toInt := by rw [ex_4891]; exact i_sub_rg (a2 := (I_4792 391 this).toInt) (b2 := (I_4792 392 this).toInt) rfl rfl h_4870 h_4890 (by decide)
                        refine lv_bipush (v := 7) hx hb dX12_nextToken_232 (by decide) ?_
                        refine lv_icmp_le (tgt := 396) hx hb dX12_nextToken_234 (by decide) (fun c_4893 => ?_) (fun c_4893 => ?_)
                        · have tc_4894 : (x_4891).toInt ≤ 7 := Int32.le_iff_toInt_le.mp c_4893
                          have h_4895 : rg x_4891 (-300) 7 := rg_le1 c_4893 h_4892 (rg_k (7 : Int32) 7 rfl) (by decide)
                          have uh_4895 := h_4895.1
                          have vh_4895 := h_4895.2
                          subst hQ
                          exact W.vret hx hb hr (fun t1 ht hW => ⟨⟨(σ, I_4792, J_4793, ri, rj, rq), rfl, ⟨I_4792, J_4793, rfl, hG, (by omega), (by omega), (by omega)⟩, by rw [ht]; exact hP, va_K.moved hW.alike hK, hD⟩, hS.F ht⟩) hS.2.2 dX12_nextToken_396
                        · have tc_4896 : 7 < (x_4891).toInt := Int32.lt_iff_toInt_lt.mp (nle c_4893)
                          have h_4897 : rg x_4891 8 300 := rg_lt2 (nle c_4893) (rg_k (7 : Int32) 7 rfl) h_4892 (by decide)
                          have uh_4897 := h_4897.1
                          have vh_4897 := h_4897.2
                          refine lv_aload_n hx hb dX12_nextToken_237 rfl (lv_at hl 0 rfl) ?_
                          refine lv_lconst (v := 0) hx hb dX12_nextToken_238 (by decide) ?_
                          refine pp_l (v := 0) (C := RX12) (T := TX12) (N := 31) hx hb hts (tw_i inlX12) tyX12 tyX12_ok nmX12 hown hK hP hD hS hL_this hK_this (by decide) rfl 11 395 (by decide) (hts _ (tw_c tw_838)) rfl (tyX12_ok 11 (by decide)) (Nat.le_of_ble_eq_true rfl) (ps_395 _ _ _ _ _) dX12_nextToken_239 (fun J_4898 H locs eJ_4898 hP hD hS => ?_)
                          refine lv_goto (tgt := 396) hx hb dX12_nextToken_242 (by decide) ?_
                          subst hQ
                          exact W.vret hx hb hr (fun t1 ht hW => ⟨⟨(σ, I_4792, J_4898, ri, rj, rq), rfl, ⟨I_4792, J_4898, rfl, hG, (by omega), (by omega), (by omega)⟩, by rw [ht]; exact hP, va_K.moved hW.alike hK, hD⟩, hS.F ht⟩) hS.2.2 dX12_nextToken_396
                      · obtain ⟨f_4899, f_4900⟩ := (hr_4884.resolve_right (fun q => c_4886 q.1)).2
                        have uf_4899 := f_4899.1
                        have vf_4899 := f_4899.2
                        have tc_4901 : (x_4880).toInt ≠ 0 := fun q => c_4886 (Int32.toInt_inj.mp q)
                        have h_4902 : rg x_4880 1 1 := rg_ne c_4886 h_4885 0 rfl (by decide)
                        have uh_4902 := h_4902.1
                        have vh_4902 := h_4902.2
                        refine lv_aload_n hx hb dX12_nextToken_175 rfl (lv_at hl 0 rfl) ?_
                        refine pg_f (v := .int (I_4792 391 this)) (C := RX12) (T := TX12) (N := 31) hx hb hts (tw_i inlX12) hown hK hP hL_this hK_this (by decide) rfl 7 (by decide) (hts _ (tw_c tw_830)) rfl dX12_nextToken_176 ?_
                        refine lv_aload_n hx hb dX12_nextToken_179 rfl (lv_at hl 0 rfl) ?_
                        refine pg_f (v := .int (I_4792 392 this)) (C := RX12) (T := TX12) (N := 31) hx hb hts (tw_i inlX12) hown hK hP hL_this hK_this (by decide) rfl 8 (by decide) (hts _ (tw_c tw_820)) rfl dX12_nextToken_180 ?_
                        have h_4903 : rg (I_4792 392 this) 0 300 := GM.rI hG 392 rfl
                        have uh_4903 := h_4903.1
                        have vh_4903 := h_4903.2
                        refine lv_isub hx hb dX12_nextToken_183 ?_
                        refine lv_topi (fun x_4904 ex_4904 => ?_)
                        have h_4905 : rg x_4904 (-300) 300 := rg_of_eq ex_4904 (rg_sub h_4870 h_4903 (by decide))
                        have uh_4905 := h_4905.1
                        have vh_4905 := h_4905.2
                        have tx_4904 : (x_4904).toInt = (I_4792 391 this).toInt - (I_4792 392 this).toInt := by rw [ex_4904]; exact i_sub_rg (a2 := (I_4792 391 this).toInt) (b2 := (I_4792 392 this).toInt) rfl rfl h_4870 h_4903 (by decide)
                        refine lv_bipush (v := 7) hx hb dX12_nextToken_184 (by decide) ?_
                        refine lv_icmp_ge (tgt := 210) hx hb dX12_nextToken_186 (by decide) (fun c_4906 => ?_) (fun c_4906 => ?_)
                        · have tc_4907 : 7 ≤ (x_4904).toInt := Int32.le_iff_toInt_le.mp c_4906
                          have h_4908 : rg x_4904 7 300 := rg_le2 c_4906 (rg_k (7 : Int32) 7 rfl) h_4905 (by decide)
                          have uh_4908 := h_4908.1
                          have vh_4908 := h_4908.2
                          refine lv_aload_n hx hb dX12_nextToken_210 rfl (lv_at hl 0 rfl) ?_
                          refine lv_dup hx hb dX12_nextToken_211 rfl ?_
                          refine pg_f (v := .int (I_4792 391 this)) (C := RX12) (T := TX12) (N := 31) hx hb hts (tw_i inlX12) hown hK hP hL_this hK_this (by decide) rfl 7 (by decide) (hts _ (tw_c tw_830)) rfl dX12_nextToken_212 ?_
                          refine lv_iconst (v := 1) hx hb dX12_nextToken_215 (by decide) ?_
                          have h_4909 : rg (I_4792 391 this) 0 299 := ⟨by omega, by omega⟩
                          have uh_4909 := h_4909.1
                          have vh_4909 := h_4909.2
                          refine lv_iadd hx hb dX12_nextToken_216 ?_
                          refine lv_topi (fun x_4910 ex_4910 => ?_)
                          have h_4911 : rg x_4910 1 300 := rg_of_eq ex_4910 (rg_add h_4909 (rg_k (1 : Int32) 1 rfl) (by decide))
                          have uh_4911 := h_4911.1
                          have vh_4911 := h_4911.2
                          have tx_4910 : (x_4910).toInt = (I_4792 391 this).toInt + 1 := by rw [ex_4910]; exact i_add_rg (a2 := (I_4792 391 this).toInt) (b2 := 1) rfl rfl h_4909 (rg_k (1 : Int32) 1 rfl) (by decide)
                          refine pp_i (v := x_4910) (ty := .int) (C := RX12) (T := TX12) (N := 31) hx hb hts (tw_i inlX12) tyX12 tyX12_ok nmX12 hown hK hP hD hS hL_this hK_this (by decide) rfl 7 391 (by decide) (hts _ (tw_c tw_830)) rfl (tyX12_ok 7 (by decide)) rfl rfl (Nat.le_of_ble_eq_true rfl) (ps_391 _ _ _ _ _) dX12_nextToken_217 (fun I_4912 H locs eI_4912 hP hD hS => ?_)
                          have hG := GM.wI hG 391 rfl eI_4912 (rg_w h_4911 (by decide)) (by decide)
                          have tt_4913 : (I_4912 391 this).toInt = (x_4910).toInt := by rw [eI_4912, pq_us]
                          have tt_4914 : (I_4912 388 this).toInt = (I_4792 388 this).toInt := by rw [eI_4912, pq_uf _ _ _ (by decide)]
                          have tt_4915 : (I_4912 403 this).toInt = (I_4792 403 this).toInt := by rw [eI_4912, pq_uf _ _ _ (by decide)]
                          have tt_4916 : (I_4912 393 this).toInt = (I_4792 393 this).toInt := by rw [eI_4912, pq_uf _ _ _ (by decide)]
                          refine lv_goto (tgt := 161) hx hb dX12_nextToken_220 (by decide) ?_
                          exact ih_4867 I_4912 J_4793 _ _ _ (by omega) (ms_fu_iadd hm_4864 (by rw [eI_4912]; exact pq_us _ _ _ _) ex_4910 rfl (kk := 1) rfl (by decide) h_4909 (by decide) (by decide)) hG hP hD hS (lv_sub hl [0] rfl)
                        · have tc_4917 : (x_4904).toInt < 7 := Int32.lt_iff_toInt_lt.mp (nle c_4906)
                          have h_4918 : rg x_4904 (-300) 6 := rg_lt1 (nle c_4906) h_4905 (rg_k (7 : Int32) 7 rfl) (by decide)
                          have uh_4918 := h_4918.1
                          have vh_4918 := h_4918.2
                          refine lv_aload_n hx hb dX12_nextToken_189 rfl (lv_at hl 0 rfl) ?_
                          refine lv_aload_n hx hb dX12_nextToken_190 rfl (lv_at hl 0 rfl) ?_
                          refine pg_f (v := .long (J_4793 395 this)) (C := RX12) (T := TX12) (N := 31) hx hb hts (tw_i inlX12) hown hK hP hL_this hK_this (by decide) rfl 11 (by decide) (hts _ (tw_c tw_838)) rfl dX12_nextToken_191 ?_
                          refine lv_bipush (v := 8) hx hb dX12_nextToken_194 (by decide) ?_
                          refine lv_lshl hx hb dX12_nextToken_196 rfl ?_
                          refine lv_topl (fun x_4919 ex_4919 => ?_)
                          refine lv_aload_n hx hb dX12_nextToken_197 rfl (lv_at hl 0 rfl) ?_
                          refine lv_aload_n hx hb dX12_nextToken_198 rfl (lv_at hl 0 rfl) ?_
                          refine pg_f (v := .int (I_4792 391 this)) (C := RX12) (T := TX12) (N := 31) hx hb hts (tw_i inlX12) hown hK hP hL_this hK_this (by decide) rfl 7 (by decide) (hts _ (tw_c tw_830)) rfl dX12_nextToken_199 ?_
                          refine pk_i (va_runV (As := [.int (I_4792 391 this)]) (rest := [.long x_4919, .ref this]) ⟨hx, hb, hml, hown, hts⟩ (s_X12_see_x l D t σ I_4792 J_4793 ri rj rq H.size tg hSH hG.1 this (I_4792 391 this) hL_this hK_this (rg_w h_4870 (by decide)) this_tape hR_this_tape hL_this_tape hK_this_tape hN_this_tape hT_this_tape) (cwV 1 hts (tw_V tw_839 tw_840 tw_841 tw_5 tw_842) rfl rfl rfl cv_yX12_see_1 ⟨Nat.le_of_ble_eq_true rfl, Nat.le_of_ble_eq_true rfl⟩) ⟨pq_blind, pq_recv hK hP hL_this hK_this (by decide) rfl, pq_pre hK hN hP hD⟩ rfl rfl hl.1 rfl (lv_room (Nat.le_of_ble_eq_true rfl)) dX12_nextToken_202 ⟨Nat.le_of_ble_eq_true rfl, Nat.le_of_ble_eq_true rfl⟩) hD hS hA (fun x_4920 σ1 μ1 H locs hw_4921 hP hD hS => ?_)
                          obtain ⟨hu_4922, hp_4925, hr_4924⟩ := hw_4921
                          obtain ⟨hu_4922a, hu_4922b⟩ := Prod.mk.inj hu_4922
                          rw [hu_4922a, hu_4922b] at hP hD
                          have tt_4926 : ((x_4920).toInt = -1 ∧ (I_4792 388 this).toInt ≤ (I_4792 391 this).toInt) ∨ (0 ≤ (x_4920).toInt ∧ (I_4792 391 this).toInt < (I_4792 388 this).toInt) := hp_4925.elim Or.inl (fun q => Or.inr q.2)
                          have tt_4927 := (GM.rI hG 388 (a := this) (lo := 0) (hi := 300) rfl).2
                          refine lv_i2l hx hb dX12_nextToken_205 rfl ?_
                          refine lv_topl (fun x_4928 ex_4928 => ?_)
                          refine lv_lor hx hb dX12_nextToken_206 ?_
                          refine lv_topl (fun x_4929 ex_4929 => ?_)
                          refine pp_l (v := x_4929) (C := RX12) (T := TX12) (N := 31) hx hb hts (tw_i inlX12) tyX12 tyX12_ok nmX12 hown hK hP hD hS hL_this hK_this (by decide) rfl 11 395 (by decide) (hts _ (tw_c tw_838)) rfl (tyX12_ok 11 (by decide)) (Nat.le_of_ble_eq_true rfl) (ps_395 _ _ _ _ _) dX12_nextToken_207 (fun J_4930 H locs eJ_4930 hP hD hS => ?_)
                          refine lv_aload_n hx hb dX12_nextToken_210 rfl (lv_at hl 0 rfl) ?_
                          refine lv_dup hx hb dX12_nextToken_211 rfl ?_
                          refine pg_f (v := .int (I_4792 391 this)) (C := RX12) (T := TX12) (N := 31) hx hb hts (tw_i inlX12) hown hK hP hL_this hK_this (by decide) rfl 7 (by decide) (hts _ (tw_c tw_830)) rfl dX12_nextToken_212 ?_
                          refine lv_iconst (v := 1) hx hb dX12_nextToken_215 (by decide) ?_
                          have h_4931 : rg (I_4792 391 this) 0 299 := ⟨by omega, by omega⟩
                          have uh_4931 := h_4931.1
                          have vh_4931 := h_4931.2
                          refine lv_iadd hx hb dX12_nextToken_216 ?_
                          refine lv_topi (fun x_4932 ex_4932 => ?_)
                          have h_4933 : rg x_4932 1 300 := rg_of_eq ex_4932 (rg_add h_4931 (rg_k (1 : Int32) 1 rfl) (by decide))
                          have uh_4933 := h_4933.1
                          have vh_4933 := h_4933.2
                          have tx_4932 : (x_4932).toInt = (I_4792 391 this).toInt + 1 := by rw [ex_4932]; exact i_add_rg (a2 := (I_4792 391 this).toInt) (b2 := 1) rfl rfl h_4931 (rg_k (1 : Int32) 1 rfl) (by decide)
                          refine pp_i (v := x_4932) (ty := .int) (C := RX12) (T := TX12) (N := 31) hx hb hts (tw_i inlX12) tyX12 tyX12_ok nmX12 hown hK hP hD hS hL_this hK_this (by decide) rfl 7 391 (by decide) (hts _ (tw_c tw_830)) rfl (tyX12_ok 7 (by decide)) rfl rfl (Nat.le_of_ble_eq_true rfl) (ps_391 _ _ _ _ _) dX12_nextToken_217 (fun I_4934 H locs eI_4934 hP hD hS => ?_)
                          have hG := GM.wI hG 391 rfl eI_4934 (rg_w h_4933 (by decide)) (by decide)
                          have tt_4935 : (I_4934 391 this).toInt = (x_4932).toInt := by rw [eI_4934, pq_us]
                          have tt_4936 : (I_4934 388 this).toInt = (I_4792 388 this).toInt := by rw [eI_4934, pq_uf _ _ _ (by decide)]
                          have tt_4937 : (I_4934 403 this).toInt = (I_4792 403 this).toInt := by rw [eI_4934, pq_uf _ _ _ (by decide)]
                          have tt_4938 : (I_4934 393 this).toInt = (I_4792 393 this).toInt := by rw [eI_4934, pq_uf _ _ _ (by decide)]
                          refine lv_goto (tgt := 161) hx hb dX12_nextToken_220 (by decide) ?_
                          exact ih_4867 I_4934 J_4930 _ _ _ (by omega) (ms_fu_iadd hm_4864 (by rw [eI_4934]; exact pq_us _ _ _ _) ex_4932 rfl (kk := 1) rfl (by decide) h_4931 (by decide) (by decide)) hG hP hD hS (lv_sub hl [0] rfl)
                  exact L_4866 _ I_4572 J_4577 _ _ _ (by omega) (Nat.lt_succ_self _) hG hP hD hS (lv_sub hl [1] rfl)
              · obtain ⟨f_4939, f_4940⟩ := (hr_4002.resolve_right (fun q => c_4004 q.1)).2
                have uf_4939 := f_4939.1
                have vf_4939 := f_4939.2
                have tc_4941 : (x_3998).toInt ≠ 0 := fun q => c_4004 (Int32.toInt_inj.mp q)
                have h_4942 : rg x_3998 1 1 := rg_ne c_4004 h_4003 0 rfl (by decide)
                have uh_4942 := h_4942.1
                have vh_4942 := h_4942.2
                refine lv_aload_n hx hb dX12_nextToken_75 rfl (lv_at hl 1 rfl) ?_
                refine lv_iconst (v := 1) hx hb dX12_nextToken_76 (by decide) ?_
                refine pp_i (v := 1) (ty := .int) (C := RX12) (T := TX12) (N := 31) hx hb hts (tw_i inlX12) tyX12 tyX12_ok nmX12 hown hK hP hD hS hL_this hK_this (by decide) rfl 9 393 (by decide) (hts _ (tw_c tw_831)) rfl (tyX12_ok 9 (by decide)) rfl rfl (Nat.le_of_ble_eq_true rfl) (ps_393 _ _ _ _ _) dX12_nextToken_77 (fun I_4943 H locs eI_4943 hP hD hS => ?_)
                have hG := GM.wI hG 393 rfl eI_4943 (rg_w (rg_k (1 : Int32) 1 rfl) (by decide)) (by decide)
                have tt_4944 : (I_4943 391 this).toInt = (I_3981 391 this).toInt := by rw [eI_4943, pq_uf _ _ _ (by decide)]
                have tt_4945 : (I_4943 388 this).toInt = (I_3981 388 this).toInt := by rw [eI_4943, pq_uf _ _ _ (by decide)]
                have tt_4946 : (I_4943 403 this).toInt = (I_3981 403 this).toInt := by rw [eI_4943, pq_uf _ _ _ (by decide)]
                have tt_4947 : (I_4943 393 this).toInt = 1 := by rw [eI_4943, pq_us]; rfl
                refine lv_aload_n hx hb dX12_nextToken_80 rfl (lv_at hl 1 rfl) ?_
                refine lv_iconst (v := 0) hx hb dX12_nextToken_81 (by decide) ?_
                refine pp_i (v := 0) (ty := .int) (C := RX12) (T := TX12) (N := 31) hx hb hts (tw_i inlX12) tyX12 tyX12_ok nmX12 hown hK hP hD hS hL_this hK_this (by decide) rfl 10 394 (by decide) (hts _ (tw_c tw_836)) rfl (tyX12_ok 10 (by decide)) rfl rfl (Nat.le_of_ble_eq_true rfl) (ps_394 _ _ _ _ _) dX12_nextToken_82 (fun I_4948 H locs eI_4948 hP hD hS => ?_)
                have hG := GM.wI hG 394 rfl eI_4948 (rg_w (rg_k (0 : Int32) 0 rfl) (by decide)) (by decide)
                have tt_4949 : (I_4948 391 this).toInt = (I_4943 391 this).toInt := by rw [eI_4948, pq_uf _ _ _ (by decide)]
                have tt_4950 : (I_4948 388 this).toInt = (I_4943 388 this).toInt := by rw [eI_4948, pq_uf _ _ _ (by decide)]
                have tt_4951 : (I_4948 403 this).toInt = (I_4943 403 this).toInt := by rw [eI_4948, pq_uf _ _ _ (by decide)]
                have tt_4952 : (I_4948 393 this).toInt = (I_4943 393 this).toInt := by rw [eI_4948, pq_uf _ _ _ (by decide)]
                have L_5204 : ∀ (n_5203 : Nat) (I_5138 : Nat → Nat → Int32) (H : Heap) (locs : List Loc) (ls : Array Slot), ((I_2958 391 this).toInt ≤ (I_5138 391 this).toInt ∧ (I_5138 388 this).toInt = (I 388 this).toInt ∧ (I_5138 403 this).toInt = (I 403 this).toInt) → (300 - (I_5138 391 this).toInt).toNat < n_5203 → GM [391, 392, 393] tg σ I ri I_5138 ri rq → va_P D vwCl (pq_P t σ (I_5138, J, ri, rj, rq)) H → va_D A (pq_P t σ (I_5138, J, ri, rj, rq)) → va_S A s.heap H locs → lv_has ls 3 [(0, .ref this)] → W p l e ({ frames := 2, cells := 0, slots := 0, locals := 42 } : Room) s m (List.toArray ([.ref this] : List Value)) below meth c H locs 0 0 Q (F0 m 85 ls []) := by
                  intro n_5203
                  induction n_5203 with
                  | zero => intro I_5138 H locs ls hrel_5207 hm_5202 hG hP hD hS hl; exact absurd hm_5202 (Nat.not_lt_zero _)
                  | succ n_5203 ih_5205 =>
                    intro I_5138 H locs ls hrel_5207 hm_5202 hG hP hD hS hl
                    refine lv_aload_n hx hb dX12_nextToken_85 rfl (lv_at hl 0 rfl) ?_
                    refine lv_aload_n hx hb dX12_nextToken_86 rfl (lv_at hl 0 rfl) ?_
                    refine pg_f (v := .int (I_5138 391 this)) (C := RX12) (T := TX12) (N := 31) hx hb hts (tw_i inlX12) hown hK hP hL_this hK_this (by decide) rfl 7 (by decide) (hts _ (tw_c tw_830)) rfl dX12_nextToken_87 ?_
                    have h_5208 : rg (I_5138 391 this) 0 300 := GM.rI hG 391 rfl
                    have uh_5208 := h_5208.1
                    have vh_5208 := h_5208.2
                    refine pk_i (va_runV (As := [.int (I_5138 391 this)]) (rest := []) ⟨hx, hb, hml, hown, hts⟩ (s_X12_see_x l D t σ I_5138 J ri rj rq H.size tg hSH hG.1 this (I_5138 391 this) hL_this hK_this (rg_w h_5208 (by decide)) this_tape hR_this_tape hL_this_tape hK_this_tape hN_this_tape hT_this_tape) (cwV 1 hts (tw_V tw_839 tw_840 tw_841 tw_5 tw_842) rfl rfl rfl cv_yX12_see_1 ⟨Nat.le_of_ble_eq_true rfl, Nat.le_of_ble_eq_true rfl⟩) ⟨pq_blind, pq_recv hK hP hL_this hK_this (by decide) rfl, pq_pre hK hN hP hD⟩ rfl rfl hl.1 rfl (lv_room (Nat.le_of_ble_eq_true rfl)) dX12_nextToken_90 ⟨Nat.le_of_ble_eq_true rfl, Nat.le_of_ble_eq_true rfl⟩) hD hS hA (fun x_5209 σ1 μ1 H locs hw_5210 hP hD hS => ?_)
                    obtain ⟨hu_5211, hp_5214, hr_5213⟩ := hw_5210
                    obtain ⟨hu_5211a, hu_5211b⟩ := Prod.mk.inj hu_5211
                    rw [hu_5211a, hu_5211b] at hP hD
                    have tt_5215 : ((x_5209).toInt = -1 ∧ (I_5138 388 this).toInt ≤ (I_5138 391 this).toInt) ∨ (0 ≤ (x_5209).toInt ∧ (I_5138 391 this).toInt < (I_5138 388 this).toInt) := hp_5214.elim Or.inl (fun q => Or.inr q.2)
                    have tt_5216 := (GM.rI hG 388 (a := this) (lo := 0) (hi := 300) rfl).2
                    have tt_5217 : (I_5138 391 this).toInt = (I_3981 391 this).toInt → (x_5209).toInt = (x_3987).toInt := fun q => by have e := Int32.toInt_inj.mp q; rcases hp_3992 with ⟨a, b⟩ | ⟨a, b, c⟩ <;> rcases hp_5214 with ⟨a2, b2⟩ | ⟨a2, b2, c2⟩ <;> first | omega | (rw [a, a2, e])
                    refine pk_i (va_runS (As := [.int x_5209]) (rest := []) ⟨hx, hb, hml, hown, hts⟩ (s_X12_isDigit_x l D t σ I_5138 J ri rj rq H.size tg hSH hG.1 x_5209) (va_cwS 1 hts (tw_S tw_843 tw_844 tw_5 tw_845) rfl rfl rfl cd_yX12_isDigit_1 ⟨Nat.le_of_ble_eq_true rfl, Nat.le_of_ble_eq_true rfl⟩) ⟨pq_blind, pq_pre hK hN hP hD⟩ rfl rfl hl.1 rfl (lv_room (Nat.le_of_ble_eq_true rfl)) dX12_nextToken_93 ⟨Nat.le_of_ble_eq_true rfl, Nat.le_of_ble_eq_true rfl⟩) hD hS hA (fun x_5218 σ1 μ1 H locs hw_5219 hP hD hS => ?_)
                    obtain ⟨hu_5220, hr_5222⟩ := hw_5219
                    obtain ⟨hu_5220a, hu_5220b⟩ := Prod.mk.inj hu_5220
                    rw [hu_5220a, hu_5220b] at hP hD
                    have h_5223 : rg x_5218 0 1 := by rcases hr_5222 with ⟨q, -⟩ | ⟨q, -⟩ <;> rw [q] <;> exact ⟨by decide, by decide⟩
                    have uh_5223 := h_5223.1
                    have vh_5223 := h_5223.2
                    refine lv_if_eq (tgt := 396) hx hb dX12_nextToken_96 (by decide) (fun c_5224 => ?_) (fun c_5224 => ?_)
                    · have f_5225 := (hr_5222.resolve_left (fun q => absurd (q.1.symm.trans c_5224) (by decide))).2
                      have tc_5226 : (x_5218).toInt = 0 := congrArg Int32.toInt c_5224
                      have h_5227 : rg x_5218 0 0 := rg_and h_5223 (rg_of_eq c_5224 (rg_k (0 : Int32) 0 rfl)) (by decide)
                      have uh_5227 := h_5227.1
                      have vh_5227 := h_5227.2
                      subst hQ
                      exact W.vret hx hb hr (fun t1 ht hW => ⟨⟨(σ, I_5138, J, ri, rj, rq), rfl, ⟨I_5138, J, rfl, hG, (by omega), (by omega), (by omega)⟩, by rw [ht]; exact hP, va_K.moved hW.alike hK, hD⟩, hS.F ht⟩) hS.2.2 dX12_nextToken_396
                    · obtain ⟨f_5228, f_5229⟩ := (hr_5222.resolve_right (fun q => c_5224 q.1)).2
                      have uf_5228 := f_5228.1
                      have vf_5228 := f_5228.2
                      have tc_5230 : (x_5218).toInt ≠ 0 := fun q => c_5224 (Int32.toInt_inj.mp q)
                      have h_5231 : rg x_5218 1 1 := rg_ne c_5224 h_5223 0 rfl (by decide)
                      have uh_5231 := h_5231.1
                      have vh_5231 := h_5231.2
                      refine lv_aload_n hx hb dX12_nextToken_99 rfl (lv_at hl 0 rfl) ?_
                      refine pg_f (v := .int (I_5138 394 this)) (C := RX12) (T := TX12) (N := 31) hx hb hts (tw_i inlX12) hown hK hP hL_this hK_this (by decide) rfl 10 (by decide) (hts _ (tw_c tw_836)) rfl dX12_nextToken_100 ?_
                      refine lv_ldc hx hb hown (hts _ (tw_c tw_837)) dX12_nextToken_103 ?_
                      refine lv_icmp_ge (tgt := 131) hx hb dX12_nextToken_105 (by decide) (fun c_5232 => ?_) (fun c_5232 => ?_)
                      · have tc_5233 : 100000 ≤ (I_5138 394 this).toInt := Int32.le_iff_toInt_le.mp c_5232
                        have h_5234 : rg (I_5138 394 this) 100000 2147483647 := rg_le2 c_5232 (rg_k (100000 : Int32) 100000 rfl) (rg_full _) (by decide)
                        have uh_5234 := h_5234.1
                        have vh_5234 := h_5234.2
                        refine lv_aload_n hx hb dX12_nextToken_131 rfl (lv_at hl 0 rfl) ?_
                        refine lv_dup hx hb dX12_nextToken_132 rfl ?_
                        refine pg_f (v := .int (I_5138 391 this)) (C := RX12) (T := TX12) (N := 31) hx hb hts (tw_i inlX12) hown hK hP hL_this hK_this (by decide) rfl 7 (by decide) (hts _ (tw_c tw_830)) rfl dX12_nextToken_133 ?_
                        refine lv_iconst (v := 1) hx hb dX12_nextToken_136 (by decide) ?_
                        have h_5235 : rg (I_5138 391 this) 0 299 := ⟨by omega, by omega⟩
                        have uh_5235 := h_5235.1
                        have vh_5235 := h_5235.2
                        refine lv_iadd hx hb dX12_nextToken_137 ?_
                        refine lv_topi (fun x_5236 ex_5236 => ?_)
                        have h_5237 : rg x_5236 1 300 := rg_of_eq ex_5236 (rg_add h_5235 (rg_k (1 : Int32) 1 rfl) (by decide))
                        have uh_5237 := h_5237.1
                        have vh_5237 := h_5237.2
                        have tx_5236 : (x_5236).toInt = (I_5138 391 this).toInt + 1 := by rw [ex_5236]; exact i_add_rg (a2 := (I_5138 391 this).toInt) (b2 := 1) rfl rfl h_5235 (rg_k (1 : Int32) 1 rfl) (by decide)
                        refine pp_i (v := x_5236) (ty := .int) (C := RX12) (T := TX12) (N := 31) hx hb hts (tw_i inlX12) tyX12 tyX12_ok nmX12 hown hK hP hD hS hL_this hK_this (by decide) rfl 7 391 (by decide) (hts _ (tw_c tw_830)) rfl (tyX12_ok 7 (by decide)) rfl rfl (Nat.le_of_ble_eq_true rfl) (ps_391 _ _ _ _ _) dX12_nextToken_138 (fun I_5238 H locs eI_5238 hP hD hS => ?_)
                        have hG := GM.wI hG 391 rfl eI_5238 (rg_w h_5237 (by decide)) (by decide)
                        have tt_5239 : (I_5238 391 this).toInt = (x_5236).toInt := by rw [eI_5238, pq_us]
                        have tt_5240 : (I_5238 388 this).toInt = (I_5138 388 this).toInt := by rw [eI_5238, pq_uf _ _ _ (by decide)]
                        have tt_5241 : (I_5238 403 this).toInt = (I_5138 403 this).toInt := by rw [eI_5238, pq_uf _ _ _ (by decide)]
                        have tt_5242 : (I_5238 393 this).toInt = (I_5138 393 this).toInt := by rw [eI_5238, pq_uf _ _ _ (by decide)]
                        refine lv_goto (tgt := 85) hx hb dX12_nextToken_141 (by decide) ?_
                        exact ih_5205 I_5238 _ _ _ (by omega) (ms_fu_iadd hm_5202 (by rw [eI_5238]; exact pq_us _ _ _ _) ex_5236 rfl (kk := 1) rfl (by decide) h_5235 (by decide) (by decide)) hG hP hD hS (lv_sub hl [0] rfl)
                      · have tc_5243 : (I_5138 394 this).toInt < 100000 := Int32.lt_iff_toInt_lt.mp (nle c_5232)
                        have h_5244 : rg (I_5138 394 this) (-2147483648) 99999 := rg_lt1 (nle c_5232) (rg_full _) (rg_k (100000 : Int32) 100000 rfl) (by decide)
                        have uh_5244 := h_5244.1
                        have vh_5244 := h_5244.2
                        refine lv_aload_n hx hb dX12_nextToken_108 rfl (lv_at hl 0 rfl) ?_
                        refine lv_bipush (v := 10) hx hb dX12_nextToken_109 (by decide) ?_
                        refine lv_aload_n hx hb dX12_nextToken_111 rfl (lv_at hl 0 rfl) ?_
                        refine pg_f (v := .int (I_5138 394 this)) (C := RX12) (T := TX12) (N := 31) hx hb hts (tw_i inlX12) hown hK hP hL_this hK_this (by decide) rfl 10 (by decide) (hts _ (tw_c tw_836)) rfl dX12_nextToken_112 ?_
                        refine lv_imul hx hb dX12_nextToken_115 ?_
                        refine lv_topi (fun x_5245 ex_5245 => ?_)
                        refine lv_aload_n hx hb dX12_nextToken_116 rfl (lv_at hl 0 rfl) ?_
                        refine lv_aload_n hx hb dX12_nextToken_117 rfl (lv_at hl 0 rfl) ?_
                        refine pg_f (v := .int (I_5138 391 this)) (C := RX12) (T := TX12) (N := 31) hx hb hts (tw_i inlX12) hown hK hP hL_this hK_this (by decide) rfl 7 (by decide) (hts _ (tw_c tw_830)) rfl dX12_nextToken_118 ?_
                        refine pk_i (va_runV (As := [.int (I_5138 391 this)]) (rest := [.int x_5245, .ref this]) ⟨hx, hb, hml, hown, hts⟩ (s_X12_see_x l D t σ I_5138 J ri rj rq H.size tg hSH hG.1 this (I_5138 391 this) hL_this hK_this (rg_w h_5208 (by decide)) this_tape hR_this_tape hL_this_tape hK_this_tape hN_this_tape hT_this_tape) (cwV 1 hts (tw_V tw_839 tw_840 tw_841 tw_5 tw_842) rfl rfl rfl cv_yX12_see_1 ⟨Nat.le_of_ble_eq_true rfl, Nat.le_of_ble_eq_true rfl⟩) ⟨pq_blind, pq_recv hK hP hL_this hK_this (by decide) rfl, pq_pre hK hN hP hD⟩ rfl rfl hl.1 rfl (lv_room (Nat.le_of_ble_eq_true rfl)) dX12_nextToken_121 ⟨Nat.le_of_ble_eq_true rfl, Nat.le_of_ble_eq_true rfl⟩) hD hS hA (fun x_5246 σ1 μ1 H locs hw_5247 hP hD hS => ?_)
                        obtain ⟨hu_5248, hp_5251, hr_5250⟩ := hw_5247
                        obtain ⟨hu_5248a, hu_5248b⟩ := Prod.mk.inj hu_5248
                        rw [hu_5248a, hu_5248b] at hP hD
                        have tt_5252 : ((x_5246).toInt = -1 ∧ (I_5138 388 this).toInt ≤ (I_5138 391 this).toInt) ∨ (0 ≤ (x_5246).toInt ∧ (I_5138 391 this).toInt < (I_5138 388 this).toInt) := hp_5251.elim Or.inl (fun q => Or.inr q.2)
                        have tt_5253 := (GM.rI hG 388 (a := this) (lo := 0) (hi := 300) rfl).2
                        refine lv_iadd hx hb dX12_nextToken_124 ?_
                        refine lv_topi (fun x_5254 ex_5254 => ?_)
                        refine lv_bipush (v := 48) hx hb dX12_nextToken_125 (by decide) ?_
                        refine lv_isub hx hb dX12_nextToken_127 ?_
                        refine lv_topi (fun x_5255 ex_5255 => ?_)
                        refine pp_i (v := x_5255) (ty := .int) (C := RX12) (T := TX12) (N := 31) hx hb hts (tw_i inlX12) tyX12 tyX12_ok nmX12 hown hK hP hD hS hL_this hK_this (by decide) rfl 10 394 (by decide) (hts _ (tw_c tw_836)) rfl (tyX12_ok 10 (by decide)) rfl rfl (Nat.le_of_ble_eq_true rfl) (ps_394 _ _ _ _ _) dX12_nextToken_128 (fun I_5256 H locs eI_5256 hP hD hS => ?_)
                        have hG := GM.wI hG 394 rfl eI_5256 (rg_w (rg_full _) (by decide)) (by decide)
                        have tt_5257 : (I_5256 391 this).toInt = (I_5138 391 this).toInt := by rw [eI_5256, pq_uf _ _ _ (by decide)]
                        have tt_5258 : (I_5256 388 this).toInt = (I_5138 388 this).toInt := by rw [eI_5256, pq_uf _ _ _ (by decide)]
                        have tt_5259 : (I_5256 403 this).toInt = (I_5138 403 this).toInt := by rw [eI_5256, pq_uf _ _ _ (by decide)]
                        have tt_5260 : (I_5256 393 this).toInt = (I_5138 393 this).toInt := by rw [eI_5256, pq_uf _ _ _ (by decide)]
                        refine lv_aload_n hx hb dX12_nextToken_131 rfl (lv_at hl 0 rfl) ?_
                        refine lv_dup hx hb dX12_nextToken_132 rfl ?_
                        refine pg_f (v := .int (I_5256 391 this)) (C := RX12) (T := TX12) (N := 31) hx hb hts (tw_i inlX12) hown hK hP hL_this hK_this (by decide) rfl 7 (by decide) (hts _ (tw_c tw_830)) rfl dX12_nextToken_133 ?_
                        have h_5261 : rg (I_5256 391 this) 0 300 := GM.rI hG 391 rfl
                        have uh_5261 := h_5261.1
                        have vh_5261 := h_5261.2
                        refine lv_iconst (v := 1) hx hb dX12_nextToken_136 (by decide) ?_
                        have h_5262 : rg (I_5256 391 this) 0 299 := ⟨by omega, by omega⟩
                        have uh_5262 := h_5262.1
                        have vh_5262 := h_5262.2
                        refine lv_iadd hx hb dX12_nextToken_137 ?_
                        refine lv_topi (fun x_5263 ex_5263 => ?_)
                        have h_5264 : rg x_5263 1 300 := rg_of_eq ex_5263 (rg_add h_5262 (rg_k (1 : Int32) 1 rfl) (by decide))
                        have uh_5264 := h_5264.1
                        have vh_5264 := h_5264.2
                        have tx_5263 : (x_5263).toInt = (I_5256 391 this).toInt + 1 := by rw [ex_5263]; exact i_add_rg (a2 := (I_5256 391 this).toInt) (b2 := 1) rfl rfl h_5262 (rg_k (1 : Int32) 1 rfl) (by decide)
                        refine pp_i (v := x_5263) (ty := .int) (C := RX12) (T := TX12) (N := 31) hx hb hts (tw_i inlX12) tyX12 tyX12_ok nmX12 hown hK hP hD hS hL_this hK_this (by decide) rfl 7 391 (by decide) (hts _ (tw_c tw_830)) rfl (tyX12_ok 7 (by decide)) rfl rfl (Nat.le_of_ble_eq_true rfl) (ps_391 _ _ _ _ _) dX12_nextToken_138 (fun I_5265 H locs eI_5265 hP hD hS => ?_)
                        have hG := GM.wI hG 391 rfl eI_5265 (rg_w h_5264 (by decide)) (by decide)
                        have tt_5266 : (I_5265 391 this).toInt = (x_5263).toInt := by rw [eI_5265, pq_us]
                        have tt_5267 : (I_5265 388 this).toInt = (I_5256 388 this).toInt := by rw [eI_5265, pq_uf _ _ _ (by decide)]
                        have tt_5268 : (I_5265 403 this).toInt = (I_5256 403 this).toInt := by rw [eI_5265, pq_uf _ _ _ (by decide)]
                        have tt_5269 : (I_5265 393 this).toInt = (I_5256 393 this).toInt := by rw [eI_5265, pq_uf _ _ _ (by decide)]
                        refine lv_goto (tgt := 85) hx hb dX12_nextToken_141 (by decide) ?_
                        exact ih_5205 I_5265 _ _ _ (by omega) (ms_fu_iadd hm_5202 (by rw [eI_5265]; exact pq_us _ _ _ _) ex_5263 ((congrFun (show I_5256 391 = I_5138 391 from by rw [eI_5256]; exact pq_uf _ _ _ (by decide)) this).trans rfl) (kk := 1) rfl (by decide) h_5262 (by decide) (by decide)) hG hP hD hS (lv_sub hl [0] rfl)
                exact L_5204 _ I_4948 _ _ _ (by omega) (Nat.lt_succ_self _) hG hP hD hS (lv_sub hl [1] rfl)
            · have tc_5270 : (x_3987).toInt < 0 := Int32.lt_iff_toInt_lt.mp (nle c_3995)
              have h_5271 : rg x_3987 (-1) (-1) := rg_lt1 (nle c_3995) hr_3991 (rg_k (0 : Int32) 0 rfl) (by decide)
              have uh_5271 := h_5271.1
              have vh_5271 := h_5271.2
              refine lv_aload_n hx hb dX12_nextToken_60 rfl (lv_at hl 1 rfl) ?_
              refine lv_iconst (v := 0) hx hb dX12_nextToken_61 (by decide) ?_
              refine pp_i (v := 0) (ty := .int) (C := RX12) (T := TX12) (N := 31) hx hb hts (tw_i inlX12) tyX12 tyX12_ok nmX12 hown hK hP hD hS hL_this hK_this (by decide) rfl 9 393 (by decide) (hts _ (tw_c tw_831)) rfl (tyX12_ok 9 (by decide)) rfl rfl (Nat.le_of_ble_eq_true rfl) (ps_393 _ _ _ _ _) dX12_nextToken_62 (fun I_5272 H locs eI_5272 hP hD hS => ?_)
              have hG := GM.wI hG 393 rfl eI_5272 (rg_w (rg_k (0 : Int32) 0 rfl) (by decide)) (by decide)
              have tt_5273 : (I_5272 391 this).toInt = (I_3981 391 this).toInt := by rw [eI_5272, pq_uf _ _ _ (by decide)]
              have tt_5274 : (I_5272 388 this).toInt = (I_3981 388 this).toInt := by rw [eI_5272, pq_uf _ _ _ (by decide)]
              have tt_5275 : (I_5272 403 this).toInt = (I_3981 403 this).toInt := by rw [eI_5272, pq_uf _ _ _ (by decide)]
              have tt_5276 : (I_5272 393 this).toInt = 0 := by rw [eI_5272, pq_us]; rfl
              refine lv_goto (tgt := 396) hx hb dX12_nextToken_65 (by decide) ?_
              subst hQ
              exact W.vret hx hb hr (fun t1 ht hW => ⟨⟨(σ, I_5272, J, ri, rj, rq), rfl, ⟨I_5272, J, rfl, hG, (by omega), (by omega), (by omega)⟩, by rw [ht]; exact hP, va_K.moved hW.alike hK, hD⟩, hS.F ht⟩) hS.2.2 dX12_nextToken_396
          · have tc_5277 : (x_3971).toInt = 10 := congrArg Int32.toInt c_3979
            have h_5278 : rg x_3971 10 10 := rg_and hr_3975 (rg_of_eq c_3979 (rg_k (10 : Int32) 10 rfl)) (by decide)
            have uh_5278 := h_5278.1
            have vh_5278 := h_5278.2
            refine lv_aload_n hx hb dX12_nextToken_26 rfl (lv_at hl 0 rfl) ?_
            refine lv_dup hx hb dX12_nextToken_27 rfl ?_
            refine pg_f (v := .int (I_2958 391 this)) (C := RX12) (T := TX12) (N := 31) hx hb hts (tw_i inlX12) hown hK hP hL_this hK_this (by decide) rfl 7 (by decide) (hts _ (tw_c tw_830)) rfl dX12_nextToken_28 ?_
            refine lv_iconst (v := 1) hx hb dX12_nextToken_31 (by decide) ?_
            have h_5279 : rg (I_2958 391 this) 0 299 := ⟨by omega, by omega⟩
            have uh_5279 := h_5279.1
            have vh_5279 := h_5279.2
            refine lv_iadd hx hb dX12_nextToken_32 ?_
            refine lv_topi (fun x_5280 ex_5280 => ?_)
            have h_5281 : rg x_5280 1 300 := rg_of_eq ex_5280 (rg_add h_5279 (rg_k (1 : Int32) 1 rfl) (by decide))
            have uh_5281 := h_5281.1
            have vh_5281 := h_5281.2
            have tx_5280 : (x_5280).toInt = (I_2958 391 this).toInt + 1 := by rw [ex_5280]; exact i_add_rg (a2 := (I_2958 391 this).toInt) (b2 := 1) rfl rfl h_5279 (rg_k (1 : Int32) 1 rfl) (by decide)
            refine pp_i (v := x_5280) (ty := .int) (C := RX12) (T := TX12) (N := 31) hx hb hts (tw_i inlX12) tyX12 tyX12_ok nmX12 hown hK hP hD hS hL_this hK_this (by decide) rfl 7 391 (by decide) (hts _ (tw_c tw_830)) rfl (tyX12_ok 7 (by decide)) rfl rfl (Nat.le_of_ble_eq_true rfl) (ps_391 _ _ _ _ _) dX12_nextToken_33 (fun I_5282 H locs eI_5282 hP hD hS => ?_)
            have hG := GM.wI hG 391 rfl eI_5282 (rg_w h_5281 (by decide)) (by decide)
            have tt_5283 : (I_5282 391 this).toInt = (x_5280).toInt := by rw [eI_5282, pq_us]
            have tt_5284 : (I_5282 388 this).toInt = (I_2958 388 this).toInt := by rw [eI_5282, pq_uf _ _ _ (by decide)]
            have tt_5285 : (I_5282 403 this).toInt = (I_2958 403 this).toInt := by rw [eI_5282, pq_uf _ _ _ (by decide)]
            have tt_5286 : (I_5282 393 this).toInt = (I_2958 393 this).toInt := by rw [eI_5282, pq_uf _ _ _ (by decide)]
            refine lv_goto (tgt := 0) hx hb dX12_nextToken_36 (by decide) ?_
            exact ih_3947 I_5282 _ _ _ (by omega) (ms_fu_iadd hm_3944 (by rw [eI_5282]; exact pq_us _ _ _ _) ex_5280 rfl (kk := 1) rfl (by decide) h_5279 (by decide) (by decide)) hG hP hD hS (lv_sub hl [0] rfl)
    exact L_3946 _ I _ _ _ (by omega) (Nat.lt_succ_self _) hG hP hD hS (lv_sub hl [0] rfl)
  exact go _ _ _ hP hD hS hl
