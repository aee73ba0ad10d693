theorem dX6_append_0 : decode cX6_append 0 = .ok (.bipush 24, 2) := oc_16 (a := 24) (by decide +kernel)
theorem dX6_append_2 : decode cX6_append 2 = .ok (.istore_n 2, 1) := oc_61 (by decide +kernel)
theorem dX6_append_3 : decode cX6_append 3 = .ok (.iload_n 2, 1) := oc_28 (by decide +kernel)
theorem dX6_append_4 : decode cX6_append 4 = .ok (.ifCond .lt 45, 3) := oc_155 (a := 0) (b := 45) (by decide +kernel)
theorem dX6_append_49 : decode cX6_append 49 = .ok (.return_, 1) := oc_177 (by decide +kernel)
theorem dX6_append_7 : decode cX6_append 7 = .ok (.aload_n 0, 1) := oc_42 (by decide +kernel)
theorem tw_626 : Cond.fieldLink RX6 15 "RingsUnder$Scanner" "length" "I" ∈ wsL_law := sg_27 _ (List.mem_of_getElem? (i := 2) rfl)
theorem dX6_append_8 : decode cX6_append 8 = .ok (.getfield 15, 3) := oc_180 (a := 0) (b := 15) (by decide +kernel)
theorem dX6_append_11 : decode cX6_append 11 = .ok (.sipush 300, 3) := oc_17 (a := 1) (b := 44) (by decide +kernel)
theorem dX6_append_14 : decode cX6_append 14 = .ok (.if_icmp .ge 35, 3) := oc_162 (a := 0) (b := 35) (by decide +kernel)
theorem dX6_append_17 : decode cX6_append 17 = .ok (.aload_n 0, 1) := oc_42 (by decide +kernel)
theorem tw_165 : Cond.fieldLink RX6 9 "RingsUnder$Scanner" "tape" "[I" ∈ wsL_law := sg_7 _ (List.mem_of_getElem? (i := 21) rfl)
theorem dX6_append_18 : decode cX6_append 18 = .ok (.getfield 9, 3) := oc_180 (a := 0) (b := 9) (by decide +kernel)
theorem dX6_append_21 : decode cX6_append 21 = .ok (.aload_n 0, 1) := oc_42 (by decide +kernel)
theorem dX6_append_22 : decode cX6_append 22 = .ok (.getfield 15, 3) := oc_180 (a := 0) (b := 15) (by decide +kernel)
theorem dX6_append_25 : decode cX6_append 25 = .ok (.iload_n 1, 1) := oc_27 (by decide +kernel)
theorem dX6_append_26 : decode cX6_append 26 = .ok (.iload_n 2, 1) := oc_28 (by decide +kernel)
theorem dX6_append_27 : decode cX6_append 27 = .ok (.iushr, 1) := oc_124 (by decide +kernel)
theorem dX6_append_28 : decode cX6_append 28 = .ok (.sipush 255, 3) := oc_17 (a := 0) (b := 255) (by decide +kernel)
theorem dX6_append_31 : decode cX6_append 31 = .ok (.iand, 1) := oc_126 (by decide +kernel)
theorem dX6_append_32 : decode cX6_append 32 = .ok (.iastore, 1) := oc_79 (by decide +kernel)
theorem dX6_append_33 : decode cX6_append 33 = .ok (.aload_n 0, 1) := oc_42 (by decide +kernel)
theorem dX6_append_34 : decode cX6_append 34 = .ok (.dup, 1) := oc_89 (by decide +kernel)
theorem dX6_append_35 : decode cX6_append 35 = .ok (.getfield 15, 3) := oc_180 (a := 0) (b := 15) (by decide +kernel)
theorem dX6_append_38 : decode cX6_append 38 = .ok (.iconst 1, 1) := oc_4 (by decide +kernel)
theorem dX6_append_39 : decode cX6_append 39 = .ok (.iadd, 1) := oc_96 (by decide +kernel)
theorem dX6_append_40 : decode cX6_append 40 = .ok (.putfield 15, 3) := oc_181 (a := 0) (b := 15) (by decide +kernel)
theorem dX6_append_43 : decode cX6_append 43 = .ok (.iinc 2 (-8), 3) := oc_132 (b := 248) (by decide +kernel)
theorem dX6_append_46 : decode cX6_append 46 = .ok (.goto (-43), 3) := oc_167 (a := 255) (b := 213) (by decide +kernel)
theorem dX6_rewind_0 : decode cX6_rewind 0 = .ok (.aload_n 0, 1) := oc_42 (by decide +kernel)
theorem dX6_rewind_1 : decode cX6_rewind 1 = .ok (.iconst 0, 1) := oc_3 (by decide +kernel)
theorem tw_662 : Cond.fieldLink RX6 19 "RingsUnder$Scanner" "at" "I" ∈ wsL_law := sg_28 _ (List.mem_of_getElem? (i := 14) rfl)
theorem dX6_rewind_2 : decode cX6_rewind 2 = .ok (.putfield 19, 3) := oc_181 (a := 0) (b := 19) (by decide +kernel)
theorem dX6_rewind_5 : decode cX6_rewind 5 = .ok (.return_, 1) := oc_177 (by decide +kernel)
theorem dX6_isDigit_0 : decode cX6_isDigit 0 = .ok (.iload_n 0, 1) := oc_26 (by decide +kernel)
theorem dX6_isDigit_1 : decode cX6_isDigit 1 = .ok (.bipush 48, 2) := oc_16 (a := 48) (by decide +kernel)
theorem dX6_isDigit_16 : decode cX6_isDigit 16 = .ok (.iconst 0, 1) := oc_3 (by decide +kernel)
theorem dX6_isDigit_17 : decode cX6_isDigit 17 = .ok (.ireturn, 1) := oc_172 (by decide +kernel)
theorem dX6_isDigit_3 : decode cX6_isDigit 3 = .ok (.if_icmp .lt 13, 3) := oc_161 (a := 0) (b := 13) (by decide +kernel)
theorem dX6_isDigit_6 : decode cX6_isDigit 6 = .ok (.iload_n 0, 1) := oc_26 (by decide +kernel)
theorem dX6_isDigit_7 : decode cX6_isDigit 7 = .ok (.bipush 57, 2) := oc_16 (a := 57) (by decide +kernel)
theorem dX6_isDigit_9 : decode cX6_isDigit 9 = .ok (.if_icmp .gt 7, 3) := oc_163 (a := 0) (b := 7) (by decide +kernel)
theorem dX6_isDigit_12 : decode cX6_isDigit 12 = .ok (.iconst 1, 1) := oc_4 (by decide +kernel)
theorem dX6_isDigit_13 : decode cX6_isDigit 13 = .ok (.goto 4, 3) := oc_167 (a := 0) (b := 4) (by decide +kernel)
theorem dX6_isLetter_0 : decode cX6_isLetter 0 = .ok (.iload_n 0, 1) := oc_26 (by decide +kernel)
theorem dX6_isLetter_1 : decode cX6_isLetter 1 = .ok (.bipush 97, 2) := oc_16 (a := 97) (by decide +kernel)
theorem dX6_isLetter_24 : decode cX6_isLetter 24 = .ok (.iconst 1, 1) := oc_4 (by decide +kernel)
theorem dX6_isLetter_25 : decode cX6_isLetter 25 = .ok (.goto 4, 3) := oc_167 (a := 0) (b := 4) (by decide +kernel)
theorem dX6_isLetter_29 : decode cX6_isLetter 29 = .ok (.ireturn, 1) := oc_172 (by decide +kernel)
theorem dX6_isLetter_12 : decode cX6_isLetter 12 = .ok (.iload_n 0, 1) := oc_26 (by decide +kernel)
theorem dX6_isLetter_13 : decode cX6_isLetter 13 = .ok (.bipush 65, 2) := oc_16 (a := 65) (by decide +kernel)
theorem dX6_isLetter_28 : decode cX6_isLetter 28 = .ok (.iconst 0, 1) := oc_3 (by decide +kernel)
theorem dX6_isLetter_15 : decode cX6_isLetter 15 = .ok (.if_icmp .lt 13, 3) := oc_161 (a := 0) (b := 13) (by decide +kernel)
theorem dX6_isLetter_18 : decode cX6_isLetter 18 = .ok (.iload_n 0, 1) := oc_26 (by decide +kernel)
theorem dX6_isLetter_19 : decode cX6_isLetter 19 = .ok (.bipush 90, 2) := oc_16 (a := 90) (by decide +kernel)
theorem dX6_isLetter_21 : decode cX6_isLetter 21 = .ok (.if_icmp .gt 7, 3) := oc_163 (a := 0) (b := 7) (by decide +kernel)
theorem dX6_isLetter_3 : decode cX6_isLetter 3 = .ok (.if_icmp .lt 9, 3) := oc_161 (a := 0) (b := 9) (by decide +kernel)
theorem dX6_isLetter_6 : decode cX6_isLetter 6 = .ok (.iload_n 0, 1) := oc_26 (by decide +kernel)
theorem dX6_isLetter_7 : decode cX6_isLetter 7 = .ok (.bipush 122, 2) := oc_16 (a := 122) (by decide +kernel)
theorem dX6_isLetter_9 : decode cX6_isLetter 9 = .ok (.if_icmp .le 15, 3) := oc_164 (a := 0) (b := 15) (by decide +kernel)
theorem dX6_signOf_0 : decode cX6_signOf 0 = .ok (.iload_n 0, 1) := oc_26 (by decide +kernel)
theorem dX6_signOf_1 : decode cX6_signOf 1 = .ok (.tableswitch 163 35 62 #[136, 163, 163, 163, 163, 151, 154, 145, 139, 157, 142, 163, 148, 163, 163, 163, 163, 163, 163, 163, 163, 163, 163, 163, 160, 127, 133, 130], 127) := by decide +kernel
theorem dX6_signOf_137 : decode cX6_signOf 137 = .ok (.bipush 24, 2) := oc_16 (a := 24) (by decide +kernel)
theorem dX6_signOf_139 : decode cX6_signOf 139 = .ok (.ireturn, 1) := oc_172 (by decide +kernel)
theorem dX6_signOf_164 : decode cX6_signOf 164 = .ok (.bipush 34, 2) := oc_16 (a := 34) (by decide +kernel)
theorem dX6_signOf_166 : decode cX6_signOf 166 = .ok (.ireturn, 1) := oc_172 (by decide +kernel)
theorem dX6_signOf_152 : decode cX6_signOf 152 = .ok (.bipush 29, 2) := oc_16 (a := 29) (by decide +kernel)
theorem dX6_signOf_154 : decode cX6_signOf 154 = .ok (.ireturn, 1) := oc_172 (by decide +kernel)
theorem dX6_signOf_155 : decode cX6_signOf 155 = .ok (.bipush 30, 2) := oc_16 (a := 30) (by decide +kernel)
theorem dX6_signOf_157 : decode cX6_signOf 157 = .ok (.ireturn, 1) := oc_172 (by decide +kernel)
theorem dX6_signOf_146 : decode cX6_signOf 146 = .ok (.bipush 27, 2) := oc_16 (a := 27) (by decide +kernel)
theorem dX6_signOf_148 : decode cX6_signOf 148 = .ok (.ireturn, 1) := oc_172 (by decide +kernel)
theorem dX6_signOf_140 : decode cX6_signOf 140 = .ok (.bipush 25, 2) := oc_16 (a := 25) (by decide +kernel)
theorem dX6_signOf_142 : decode cX6_signOf 142 = .ok (.ireturn, 1) := oc_172 (by decide +kernel)
theorem dX6_signOf_158 : decode cX6_signOf 158 = .ok (.bipush 31, 2) := oc_16 (a := 31) (by decide +kernel)
theorem dX6_signOf_160 : decode cX6_signOf 160 = .ok (.ireturn, 1) := oc_172 (by decide +kernel)
theorem dX6_signOf_143 : decode cX6_signOf 143 = .ok (.bipush 26, 2) := oc_16 (a := 26) (by decide +kernel)
theorem dX6_signOf_145 : decode cX6_signOf 145 = .ok (.ireturn, 1) := oc_172 (by decide +kernel)
theorem dX6_signOf_149 : decode cX6_signOf 149 = .ok (.bipush 28, 2) := oc_16 (a := 28) (by decide +kernel)
theorem dX6_signOf_151 : decode cX6_signOf 151 = .ok (.ireturn, 1) := oc_172 (by decide +kernel)
theorem dX6_signOf_161 : decode cX6_signOf 161 = .ok (.bipush 32, 2) := oc_16 (a := 32) (by decide +kernel)
theorem dX6_signOf_163 : decode cX6_signOf 163 = .ok (.ireturn, 1) := oc_172 (by decide +kernel)
theorem dX6_signOf_128 : decode cX6_signOf 128 = .ok (.bipush 19, 2) := oc_16 (a := 19) (by decide +kernel)
theorem dX6_signOf_130 : decode cX6_signOf 130 = .ok (.ireturn, 1) := oc_172 (by decide +kernel)
theorem dX6_signOf_134 : decode cX6_signOf 134 = .ok (.bipush 23, 2) := oc_16 (a := 23) (by decide +kernel)
theorem dX6_signOf_136 : decode cX6_signOf 136 = .ok (.ireturn, 1) := oc_172 (by decide +kernel)
theorem dX6_signOf_131 : decode cX6_signOf 131 = .ok (.bipush 21, 2) := oc_16 (a := 21) (by decide +kernel)
theorem dX6_signOf_133 : decode cX6_signOf 133 = .ok (.ireturn, 1) := oc_172 (by decide +kernel)
theorem dX6_takeLonger_0 : decode cX6_takeLonger 0 = .ok (.aload_n 0, 1) := oc_42 (by decide +kernel)
theorem dX6_takeLonger_1 : decode cX6_takeLonger 1 = .ok (.getfield 19, 3) := oc_180 (a := 0) (b := 19) (by decide +kernel)
theorem dX6_takeLonger_4 : decode cX6_takeLonger 4 = .ok (.aload_n 0, 1) := oc_42 (by decide +kernel)
theorem dX6_takeLonger_5 : decode cX6_takeLonger 5 = .ok (.getfield 15, 3) := oc_180 (a := 0) (b := 15) (by decide +kernel)
theorem dX6_takeLonger_30 : decode cX6_takeLonger 30 = .ok (.istore_n 1, 1) := oc_60 (by decide +kernel)
theorem dX6_takeLonger_31 : decode cX6_takeLonger 31 = .ok (.iload_n 1, 1) := oc_27 (by decide +kernel)
theorem dX6_takeLonger_32 : decode cX6_takeLonger 32 = .ok (.ifCond .eq 51, 3) := oc_153 (a := 0) (b := 51) (by decide +kernel)
theorem dX6_takeLonger_35 : decode cX6_takeLonger 35 = .ok (.aload_n 0, 1) := oc_42 (by decide +kernel)
theorem tw_668 : Cond.fieldLink RX6 25 "RingsUnder$Scanner" "token" "I" ∈ wsL_law := sg_28 _ (List.mem_of_getElem? (i := 20) rfl)
theorem dX6_takeLonger_36 : decode cX6_takeLonger 36 = .ok (.getfield 25, 3) := oc_180 (a := 0) (b := 25) (by decide +kernel)
theorem dX6_takeLonger_39 : decode cX6_takeLonger 39 = .ok (.bipush 19, 2) := oc_16 (a := 19) (by decide +kernel)
theorem dX6_takeLonger_53 : decode cX6_takeLonger 53 = .ok (.aload_n 0, 1) := oc_42 (by decide +kernel)
theorem dX6_takeLonger_54 : decode cX6_takeLonger 54 = .ok (.aload_n 0, 1) := oc_42 (by decide +kernel)
theorem dX6_takeLonger_55 : decode cX6_takeLonger 55 = .ok (.getfield 25, 3) := oc_180 (a := 0) (b := 25) (by decide +kernel)
theorem dX6_takeLonger_58 : decode cX6_takeLonger 58 = .ok (.bipush 19, 2) := oc_16 (a := 19) (by decide +kernel)
theorem dX6_takeLonger_70 : decode cX6_takeLonger 70 = .ok (.putfield 25, 3) := oc_181 (a := 0) (b := 25) (by decide +kernel)
theorem dX6_takeLonger_73 : decode cX6_takeLonger 73 = .ok (.aload_n 0, 1) := oc_42 (by decide +kernel)
theorem dX6_takeLonger_74 : decode cX6_takeLonger 74 = .ok (.dup, 1) := oc_89 (by decide +kernel)
theorem dX6_takeLonger_75 : decode cX6_takeLonger 75 = .ok (.getfield 19, 3) := oc_180 (a := 0) (b := 19) (by decide +kernel)
theorem dX6_takeLonger_78 : decode cX6_takeLonger 78 = .ok (.iconst 1, 1) := oc_4 (by decide +kernel)
theorem dX6_takeLonger_79 : decode cX6_takeLonger 79 = .ok (.iadd, 1) := oc_96 (by decide +kernel)
theorem dX6_takeLonger_80 : decode cX6_takeLonger 80 = .ok (.putfield 19, 3) := oc_181 (a := 0) (b := 19) (by decide +kernel)
theorem dX6_takeLonger_83 : decode cX6_takeLonger 83 = .ok (.return_, 1) := oc_177 (by decide +kernel)
theorem dX6_takeLonger_60 : decode cX6_takeLonger 60 = .ok (.if_icmp .ne 8, 3) := oc_160 (a := 0) (b := 8) (by decide +kernel)
theorem dX6_takeLonger_68 : decode cX6_takeLonger 68 = .ok (.bipush 22, 2) := oc_16 (a := 22) (by decide +kernel)
theorem dX6_takeLonger_63 : decode cX6_takeLonger 63 = .ok (.bipush 20, 2) := oc_16 (a := 20) (by decide +kernel)
theorem dX6_takeLonger_65 : decode cX6_takeLonger 65 = .ok (.goto 5, 3) := oc_167 (a := 0) (b := 5) (by decide +kernel)
theorem dX6_takeLonger_41 : decode cX6_takeLonger 41 = .ok (.if_icmp .eq 12, 3) := oc_159 (a := 0) (b := 12) (by decide +kernel)
theorem dX6_takeLonger_44 : decode cX6_takeLonger 44 = .ok (.aload_n 0, 1) := oc_42 (by decide +kernel)
theorem dX6_takeLonger_45 : decode cX6_takeLonger 45 = .ok (.getfield 25, 3) := oc_180 (a := 0) (b := 25) (by decide +kernel)
theorem dX6_takeLonger_48 : decode cX6_takeLonger 48 = .ok (.bipush 21, 2) := oc_16 (a := 21) (by decide +kernel)
theorem dX6_takeLonger_50 : decode cX6_takeLonger 50 = .ok (.if_icmp .ne 33, 3) := oc_160 (a := 0) (b := 33) (by decide +kernel)
theorem dX6_takeLonger_29 : decode cX6_takeLonger 29 = .ok (.iconst 0, 1) := oc_3 (by decide +kernel)
theorem dX6_takeLonger_8 : decode cX6_takeLonger 8 = .ok (.if_icmp .ge 21, 3) := oc_162 (a := 0) (b := 21) (by decide +kernel)
theorem dX6_takeLonger_11 : decode cX6_takeLonger 11 = .ok (.aload_n 0, 1) := oc_42 (by decide +kernel)
theorem dX6_takeLonger_12 : decode cX6_takeLonger 12 = .ok (.getfield 9, 3) := oc_180 (a := 0) (b := 9) (by decide +kernel)
theorem dX6_takeLonger_15 : decode cX6_takeLonger 15 = .ok (.aload_n 0, 1) := oc_42 (by decide +kernel)
theorem dX6_takeLonger_16 : decode cX6_takeLonger 16 = .ok (.getfield 19, 3) := oc_180 (a := 0) (b := 19) (by decide +kernel)
theorem dX6_takeLonger_19 : decode cX6_takeLonger 19 = .ok (.iaload, 1) := oc_46 (by decide +kernel)
theorem dX6_takeLonger_20 : decode cX6_takeLonger 20 = .ok (.bipush 61, 2) := oc_16 (a := 61) (by decide +kernel)
theorem dX6_takeLonger_22 : decode cX6_takeLonger 22 = .ok (.if_icmp .ne 7, 3) := oc_160 (a := 0) (b := 7) (by decide +kernel)
theorem dX6_takeLonger_25 : decode cX6_takeLonger 25 = .ok (.iconst 1, 1) := oc_4 (by decide +kernel)
theorem dX6_takeLonger_26 : decode cX6_takeLonger 26 = .ok (.goto 4, 3) := oc_167 (a := 0) (b := 4) (by decide +kernel)
theorem dX6_takeNumber_0 : decode cX6_takeNumber 0 = .ok (.aload_n 0, 1) := oc_42 (by decide +kernel)
theorem dX6_takeNumber_1 : decode cX6_takeNumber 1 = .ok (.bipush 18, 2) := oc_16 (a := 18) (by decide +kernel)
theorem dX6_takeNumber_3 : decode cX6_takeNumber 3 = .ok (.putfield 25, 3) := oc_181 (a := 0) (b := 25) (by decide +kernel)
theorem dX6_takeNumber_6 : decode cX6_takeNumber 6 = .ok (.aload_n 0, 1) := oc_42 (by decide +kernel)
theorem dX6_takeNumber_7 : decode cX6_takeNumber 7 = .ok (.iconst 0, 1) := oc_3 (by decide +kernel)
theorem tw_676 : Cond.fieldLink RX6 48 "RingsUnder$Scanner" "value" "I" ∈ wsL_law := sg_29 _ (List.mem_of_getElem? (i := 4) rfl)
theorem dX6_takeNumber_8 : decode cX6_takeNumber 8 = .ok (.putfield 48, 3) := oc_181 (a := 0) (b := 48) (by decide +kernel)
theorem dX6_takeNumber_11 : decode cX6_takeNumber 11 = .ok (.aload_n 0, 1) := oc_42 (by decide +kernel)
theorem dX6_takeNumber_12 : decode cX6_takeNumber 12 = .ok (.getfield 19, 3) := oc_180 (a := 0) (b := 19) (by decide +kernel)
theorem dX6_takeNumber_15 : decode cX6_takeNumber 15 = .ok (.aload_n 0, 1) := oc_42 (by decide +kernel)
theorem dX6_takeNumber_16 : decode cX6_takeNumber 16 = .ok (.getfield 15, 3) := oc_180 (a := 0) (b := 15) (by decide +kernel)
theorem dX6_takeNumber_19 : decode cX6_takeNumber 19 = .ok (.if_icmp .ge 61, 3) := oc_162 (a := 0) (b := 61) (by decide +kernel)
theorem dX6_takeNumber_80 : decode cX6_takeNumber 80 = .ok (.return_, 1) := oc_177 (by decide +kernel)
theorem dX6_takeNumber_22 : decode cX6_takeNumber 22 = .ok (.aload_n 0, 1) := oc_42 (by decide +kernel)
theorem dX6_takeNumber_23 : decode cX6_takeNumber 23 = .ok (.getfield 9, 3) := oc_180 (a := 0) (b := 9) (by decide +kernel)
theorem dX6_takeNumber_26 : decode cX6_takeNumber 26 = .ok (.aload_n 0, 1) := oc_42 (by decide +kernel)
theorem dX6_takeNumber_27 : decode cX6_takeNumber 27 = .ok (.getfield 19, 3) := oc_180 (a := 0) (b := 19) (by decide +kernel)
theorem dX6_takeNumber_30 : decode cX6_takeNumber 30 = .ok (.iaload, 1) := oc_46 (by decide +kernel)
theorem tw_669 : Cond.methodLink RX6 28 yX6_isDigit ∈ wsL_law := sg_28 _ (List.mem_of_getElem? (i := 21) rfl)
theorem tw_670 : Cond.static yX6_isDigit ∈ wsL_law := sg_28 _ (List.mem_of_getElem? (i := 22) rfl)
theorem tw_153 : Cond.initialized RX6 ∈ wsL_law := sg_7 _ (List.mem_of_getElem? (i := 9) rfl)
theorem tw_671 : Cond.code yX6_isDigit cX6_isDigit 1 (some .boolean) ∈ wsL_law := sg_28 _ (List.mem_of_getElem? (i := 23) rfl)
theorem dX6_takeNumber_31 : decode cX6_takeNumber 31 = .ok (.invokestatic 28, 3) := oc_184 (a := 0) (b := 28) (by decide +kernel)
theorem dX6_takeNumber_34 : decode cX6_takeNumber 34 = .ok (.ifCond .eq 46, 3) := oc_153 (a := 0) (b := 46) (by decide +kernel)
theorem dX6_takeNumber_37 : decode cX6_takeNumber 37 = .ok (.aload_n 0, 1) := oc_42 (by decide +kernel)
theorem dX6_takeNumber_38 : decode cX6_takeNumber 38 = .ok (.sipush 10000, 3) := oc_17 (a := 39) (b := 16) (by decide +kernel)
theorem dX6_takeNumber_41 : decode cX6_takeNumber 41 = .ok (.aload_n 0, 1) := oc_42 (by decide +kernel)
theorem dX6_takeNumber_42 : decode cX6_takeNumber 42 = .ok (.getfield 48, 3) := oc_180 (a := 0) (b := 48) (by decide +kernel)
theorem dX6_takeNumber_45 : decode cX6_takeNumber 45 = .ok (.bipush 10, 2) := oc_16 (a := 10) (by decide +kernel)
theorem dX6_takeNumber_47 : decode cX6_takeNumber 47 = .ok (.imul, 1) := oc_104 (by decide +kernel)
theorem dX6_takeNumber_48 : decode cX6_takeNumber 48 = .ok (.aload_n 0, 1) := oc_42 (by decide +kernel)
theorem dX6_takeNumber_49 : decode cX6_takeNumber 49 = .ok (.getfield 9, 3) := oc_180 (a := 0) (b := 9) (by decide +kernel)
theorem dX6_takeNumber_52 : decode cX6_takeNumber 52 = .ok (.aload_n 0, 1) := oc_42 (by decide +kernel)
theorem dX6_takeNumber_53 : decode cX6_takeNumber 53 = .ok (.getfield 19, 3) := oc_180 (a := 0) (b := 19) (by decide +kernel)
theorem dX6_takeNumber_56 : decode cX6_takeNumber 56 = .ok (.iaload, 1) := oc_46 (by decide +kernel)
theorem dX6_takeNumber_57 : decode cX6_takeNumber 57 = .ok (.iadd, 1) := oc_96 (by decide +kernel)
theorem dX6_takeNumber_58 : decode cX6_takeNumber 58 = .ok (.bipush 48, 2) := oc_16 (a := 48) (by decide +kernel)
theorem dX6_takeNumber_60 : decode cX6_takeNumber 60 = .ok (.isub, 1) := oc_100 (by decide +kernel)
theorem tw_677 : Cond.methodLink RX6 51 Lib.Math.min.name ∈ wsL_law := sg_29 _ (List.mem_of_getElem? (i := 5) rfl)
theorem dX6_takeNumber_61 : decode cX6_takeNumber 61 = .ok (.invokestatic 51, 3) := oc_184 (a := 0) (b := 51) (by decide +kernel)
theorem dX6_takeNumber_64 : decode cX6_takeNumber 64 = .ok (.putfield 48, 3) := oc_181 (a := 0) (b := 48) (by decide +kernel)
theorem dX6_takeNumber_67 : decode cX6_takeNumber 67 = .ok (.aload_n 0, 1) := oc_42 (by decide +kernel)
theorem dX6_takeNumber_68 : decode cX6_takeNumber 68 = .ok (.dup, 1) := oc_89 (by decide +kernel)
theorem dX6_takeNumber_69 : decode cX6_takeNumber 69 = .ok (.getfield 19, 3) := oc_180 (a := 0) (b := 19) (by decide +kernel)
theorem dX6_takeNumber_72 : decode cX6_takeNumber 72 = .ok (.iconst 1, 1) := oc_4 (by decide +kernel)
theorem dX6_takeNumber_73 : decode cX6_takeNumber 73 = .ok (.iadd, 1) := oc_96 (by decide +kernel)
theorem dX6_takeNumber_74 : decode cX6_takeNumber 74 = .ok (.putfield 19, 3) := oc_181 (a := 0) (b := 19) (by decide +kernel)
theorem dX6_takeNumber_77 : decode cX6_takeNumber 77 = .ok (.goto (-66), 3) := oc_167 (a := 255) (b := 190) (by decide +kernel)
theorem dX7_copyFrom_0 : decode cX7_copyFrom 0 = .ok (.aload_n 0, 1) := oc_42 (by decide +kernel)
theorem dX7_copyFrom_1 : decode cX7_copyFrom 1 = .ok (.aload_n 1, 1) := oc_43 (by decide +kernel)
theorem dX7_copyFrom_2 : decode cX7_copyFrom 2 = .ok (.getfield 59, 3) := oc_180 (a := 0) (b := 59) (by decide +kernel)
theorem dX7_copyFrom_5 : decode cX7_copyFrom 5 = .ok (.putfield 59, 3) := oc_181 (a := 0) (b := 59) (by decide +kernel)
theorem dX7_copyFrom_8 : decode cX7_copyFrom 8 = .ok (.aload_n 1, 1) := oc_43 (by decide +kernel)
theorem dX7_copyFrom_9 : decode cX7_copyFrom 9 = .ok (.getfield 9, 3) := oc_180 (a := 0) (b := 9) (by decide +kernel)
theorem dX7_copyFrom_12 : decode cX7_copyFrom 12 = .ok (.aload_n 0, 1) := oc_42 (by decide +kernel)
theorem dX7_copyFrom_13 : decode cX7_copyFrom 13 = .ok (.getfield 9, 3) := oc_180 (a := 0) (b := 9) (by decide +kernel)
theorem dX7_copyFrom_16 : decode cX7_copyFrom 16 = .ok (.invokestatic 62, 3) := oc_184 (a := 0) (b := 62) (by decide +kernel)
theorem dX7_copyFrom_19 : decode cX7_copyFrom 19 = .ok (.aload_n 1, 1) := oc_43 (by decide +kernel)
theorem dX7_copyFrom_20 : decode cX7_copyFrom 20 = .ok (.getfield 15, 3) := oc_180 (a := 0) (b := 15) (by decide +kernel)
theorem dX7_copyFrom_23 : decode cX7_copyFrom 23 = .ok (.aload_n 0, 1) := oc_42 (by decide +kernel)
theorem dX7_copyFrom_24 : decode cX7_copyFrom 24 = .ok (.getfield 15, 3) := oc_180 (a := 0) (b := 15) (by decide +kernel)
theorem dX7_copyFrom_27 : decode cX7_copyFrom 27 = .ok (.invokestatic 62, 3) := oc_184 (a := 0) (b := 62) (by decide +kernel)
theorem dX7_copyFrom_30 : decode cX7_copyFrom 30 = .ok (.aload_n 1, 1) := oc_43 (by decide +kernel)
theorem dX7_copyFrom_31 : decode cX7_copyFrom 31 = .ok (.getfield 18, 3) := oc_180 (a := 0) (b := 18) (by decide +kernel)
theorem dX7_copyFrom_34 : decode cX7_copyFrom 34 = .ok (.aload_n 0, 1) := oc_42 (by decide +kernel)
theorem dX7_copyFrom_35 : decode cX7_copyFrom 35 = .ok (.getfield 18, 3) := oc_180 (a := 0) (b := 18) (by decide +kernel)
theorem dX7_copyFrom_38 : decode cX7_copyFrom 38 = .ok (.invokestatic 62, 3) := oc_184 (a := 0) (b := 62) (by decide +kernel)
theorem dX7_copyFrom_41 : decode cX7_copyFrom 41 = .ok (.aload_n 1, 1) := oc_43 (by decide +kernel)
theorem dX7_copyFrom_42 : decode cX7_copyFrom 42 = .ok (.getfield 21, 3) := oc_180 (a := 0) (b := 21) (by decide +kernel)
theorem dX7_copyFrom_45 : decode cX7_copyFrom 45 = .ok (.aload_n 0, 1) := oc_42 (by decide +kernel)
theorem dX7_copyFrom_46 : decode cX7_copyFrom 46 = .ok (.getfield 21, 3) := oc_180 (a := 0) (b := 21) (by decide +kernel)
theorem dX7_copyFrom_49 : decode cX7_copyFrom 49 = .ok (.invokestatic 62, 3) := oc_184 (a := 0) (b := 62) (by decide +kernel)
theorem dX7_copyFrom_52 : decode cX7_copyFrom 52 = .ok (.aload_n 1, 1) := oc_43 (by decide +kernel)
theorem tw_65 : Cond.fieldLink RX7 24 "RingsUnder$Seas" "low" "[I" ∈ wsL_law := sg_3 _ (List.mem_of_getElem? (i := 17) rfl)
theorem dX7_copyFrom_53 : decode cX7_copyFrom 53 = .ok (.getfield 24, 3) := oc_180 (a := 0) (b := 24) (by decide +kernel)
theorem dX7_copyFrom_56 : decode cX7_copyFrom 56 = .ok (.aload_n 0, 1) := oc_42 (by decide +kernel)
theorem dX7_copyFrom_57 : decode cX7_copyFrom 57 = .ok (.getfield 24, 3) := oc_180 (a := 0) (b := 24) (by decide +kernel)
theorem dX7_copyFrom_60 : decode cX7_copyFrom 60 = .ok (.invokestatic 62, 3) := oc_184 (a := 0) (b := 62) (by decide +kernel)
theorem dX7_copyFrom_63 : decode cX7_copyFrom 63 = .ok (.aload_n 1, 1) := oc_43 (by decide +kernel)
theorem tw_66 : Cond.fieldLink RX7 27 "RingsUnder$Seas" "high" "[I" ∈ wsL_law := sg_3 _ (List.mem_of_getElem? (i := 18) rfl)
theorem dX7_copyFrom_64 : decode cX7_copyFrom 64 = .ok (.getfield 27, 3) := oc_180 (a := 0) (b := 27) (by decide +kernel)
theorem dX7_copyFrom_67 : decode cX7_copyFrom 67 = .ok (.aload_n 0, 1) := oc_42 (by decide +kernel)
theorem dX7_copyFrom_68 : decode cX7_copyFrom 68 = .ok (.getfield 27, 3) := oc_180 (a := 0) (b := 27) (by decide +kernel)
theorem dX7_copyFrom_71 : decode cX7_copyFrom 71 = .ok (.invokestatic 62, 3) := oc_184 (a := 0) (b := 62) (by decide +kernel)
theorem dX7_copyFrom_74 : decode cX7_copyFrom 74 = .ok (.aload_n 1, 1) := oc_43 (by decide +kernel)
theorem tw_67 : Cond.fieldLink RX7 30 "RingsUnder$Seas" "warm" "[I" ∈ wsL_law := sg_3 _ (List.mem_of_getElem? (i := 19) rfl)
theorem dX7_copyFrom_75 : decode cX7_copyFrom 75 = .ok (.getfield 30, 3) := oc_180 (a := 0) (b := 30) (by decide +kernel)
theorem dX7_copyFrom_78 : decode cX7_copyFrom 78 = .ok (.aload_n 0, 1) := oc_42 (by decide +kernel)
theorem dX7_copyFrom_79 : decode cX7_copyFrom 79 = .ok (.getfield 30, 3) := oc_180 (a := 0) (b := 30) (by decide +kernel)
theorem dX7_copyFrom_82 : decode cX7_copyFrom 82 = .ok (.invokestatic 62, 3) := oc_184 (a := 0) (b := 62) (by decide +kernel)
theorem dX7_copyFrom_85 : decode cX7_copyFrom 85 = .ok (.aload_n 1, 1) := oc_43 (by decide +kernel)
theorem tw_68 : Cond.fieldLink RX7 33 "RingsUnder$Seas" "drift" "[I" ∈ wsL_law := sg_3 _ (List.mem_of_getElem? (i := 20) rfl)
theorem dX7_copyFrom_86 : decode cX7_copyFrom 86 = .ok (.getfield 33, 3) := oc_180 (a := 0) (b := 33) (by decide +kernel)
theorem dX7_copyFrom_89 : decode cX7_copyFrom 89 = .ok (.aload_n 0, 1) := oc_42 (by decide +kernel)
theorem dX7_copyFrom_90 : decode cX7_copyFrom 90 = .ok (.getfield 33, 3) := oc_180 (a := 0) (b := 33) (by decide +kernel)
theorem dX7_copyFrom_93 : decode cX7_copyFrom 93 = .ok (.invokestatic 62, 3) := oc_184 (a := 0) (b := 62) (by decide +kernel)
theorem dX7_copyFrom_96 : decode cX7_copyFrom 96 = .ok (.aload_n 1, 1) := oc_43 (by decide +kernel)
theorem tw_69 : Cond.fieldLink RX7 36 "RingsUnder$Seas" "rain" "[I" ∈ wsL_law := sg_3 _ (List.mem_of_getElem? (i := 21) rfl)
theorem dX7_copyFrom_97 : decode cX7_copyFrom 97 = .ok (.getfield 36, 3) := oc_180 (a := 0) (b := 36) (by decide +kernel)
theorem dX7_copyFrom_100 : decode cX7_copyFrom 100 = .ok (.aload_n 0, 1) := oc_42 (by decide +kernel)
theorem dX7_copyFrom_101 : decode cX7_copyFrom 101 = .ok (.getfield 36, 3) := oc_180 (a := 0) (b := 36) (by decide +kernel)
theorem dX7_copyFrom_104 : decode cX7_copyFrom 104 = .ok (.invokestatic 62, 3) := oc_184 (a := 0) (b := 62) (by decide +kernel)
theorem dX7_copyFrom_107 : decode cX7_copyFrom 107 = .ok (.aload_n 0, 1) := oc_42 (by decide +kernel)
theorem dX7_copyFrom_108 : decode cX7_copyFrom 108 = .ok (.aload_n 1, 1) := oc_43 (by decide +kernel)
theorem tw_70 : Cond.fieldLink RX7 39 "RingsUnder$Seas" "bear" "I" ∈ wsL_law := sg_3 _ (List.mem_of_getElem? (i := 22) rfl)
theorem dX7_copyFrom_109 : decode cX7_copyFrom 109 = .ok (.getfield 39, 3) := oc_180 (a := 0) (b := 39) (by decide +kernel)
theorem dX7_copyFrom_112 : decode cX7_copyFrom 112 = .ok (.putfield 39, 3) := oc_181 (a := 0) (b := 39) (by decide +kernel)
theorem dX7_copyFrom_115 : decode cX7_copyFrom 115 = .ok (.aload_n 0, 1) := oc_42 (by decide +kernel)
theorem dX7_copyFrom_116 : decode cX7_copyFrom 116 = .ok (.aload_n 1, 1) := oc_43 (by decide +kernel)
theorem tw_71 : Cond.fieldLink RX7 43 "RingsUnder$Seas" "grow" "I" ∈ wsL_law := sg_3 _ (List.mem_of_getElem? (i := 23) rfl)
theorem dX7_copyFrom_117 : decode cX7_copyFrom 117 = .ok (.getfield 43, 3) := oc_180 (a := 0) (b := 43) (by decide +kernel)
theorem dX7_copyFrom_120 : decode cX7_copyFrom 120 = .ok (.putfield 43, 3) := oc_181 (a := 0) (b := 43) (by decide +kernel)
theorem dX7_copyFrom_123 : decode cX7_copyFrom 123 = .ok (.aload_n 0, 1) := oc_42 (by decide +kernel)
theorem dX7_copyFrom_124 : decode cX7_copyFrom 124 = .ok (.aload_n 1, 1) := oc_43 (by decide +kernel)
theorem tw_72 : Cond.fieldLink RX7 46 "RingsUnder$Seas" "die" "I" ∈ wsL_law := sg_4 _ (List.mem_of_getElem? (i := 0) rfl)
theorem dX7_copyFrom_125 : decode cX7_copyFrom 125 = .ok (.getfield 46, 3) := oc_180 (a := 0) (b := 46) (by decide +kernel)
theorem dX7_copyFrom_128 : decode cX7_copyFrom 128 = .ok (.putfield 46, 3) := oc_181 (a := 0) (b := 46) (by decide +kernel)
theorem dX7_copyFrom_131 : decode cX7_copyFrom 131 = .ok (.aload_n 0, 1) := oc_42 (by decide +kernel)
theorem dX7_copyFrom_132 : decode cX7_copyFrom 132 = .ok (.aload_n 1, 1) := oc_43 (by decide +kernel)
theorem tw_73 : Cond.fieldLink RX7 49 "RingsUnder$Seas" "reach" "I" ∈ wsL_law := sg_4 _ (List.mem_of_getElem? (i := 1) rfl)
theorem dX7_copyFrom_133 : decode cX7_copyFrom 133 = .ok (.getfield 49, 3) := oc_180 (a := 0) (b := 49) (by decide +kernel)
theorem dX7_copyFrom_136 : decode cX7_copyFrom 136 = .ok (.putfield 49, 3) := oc_181 (a := 0) (b := 49) (by decide +kernel)
theorem dX7_copyFrom_139 : decode cX7_copyFrom 139 = .ok (.aload_n 0, 1) := oc_42 (by decide +kernel)
theorem dX7_copyFrom_140 : decode cX7_copyFrom 140 = .ok (.aload_n 1, 1) := oc_43 (by decide +kernel)
theorem tw_74 : Cond.fieldLink RX7 52 "RingsUnder$Seas" "cost" "I" ∈ wsL_law := sg_4 _ (List.mem_of_getElem? (i := 2) rfl)
theorem dX7_copyFrom_141 : decode cX7_copyFrom 141 = .ok (.getfield 52, 3) := oc_180 (a := 0) (b := 52) (by decide +kernel)
theorem dX7_copyFrom_144 : decode cX7_copyFrom 144 = .ok (.putfield 52, 3) := oc_181 (a := 0) (b := 52) (by decide +kernel)
theorem dX7_copyFrom_147 : decode cX7_copyFrom 147 = .ok (.return_, 1) := oc_177 (by decide +kernel)
set_option maxHeartbeats 4000000 in
set_option maxRecDepth 100000 in
theorem s_X6_append (l : Launch) (D : va_G) (t : pq_T) (σ : pq_S) (I : Nat → Nat → Int32) (J : Nat → Nat → Int64) (ri : Nat → Nat → Int32) (rj : Nat → Nat → Int64) (rq : Nat → Nat → Option Nat) (sz : Nat) (tg : Nat → Nat) (hSH : SH σ tg) (hG0 : GS tg σ I ri rq) (this : Nat) (a0 : Int32) (hL_this : this ∈ σ.1) (hK_this : σ.2.1 this = 6) : MetV l yX6_append (wa yX6_append cX6_append 3 none) ({ frames := 0, cells := 0, slots := 0, locals := 0 }) [.ref this, .int a0] D t σ (I, J, ri, rj, rq) sz 0 0 (fun (u : pq_S × pq_M) => ∃ I' : Nat → Nat → Int32, ∃ ri' : Nat → Nat → Int32, u = (σ, I', J, ri', rj, rq) ∧ GX [193] tg σ I ri rj I' ri' rj rq) := by
  refine Met.ofW (cc := cX6_append) (maxL := 3) (ret := none) (by decide) rfl ?_
  intro p e s m args below meth c s₁ B hml hv
  obtain ⟨rfl, hsz, hP, hK, hD0, hN⟩ := hv
  have hx := B.exec
  have hb := B.bytes
  have hr := B.returns
  have hts := atoms_spec (ws := (wa yX6_append cX6_append 3 none)) B.pre
  have hown : s.vm.findClass RX6 = some m.cls := findClass_of_methodNamed B.named
  have hlocks := B.notSynchronized
  subst hsz
  have hD : va_D (pq_B t σ (I, J, ri, rj, rq) s.heap.size) (pq_P t σ (I, J, ri, rj, rq)) := hD0.self
  generalize hAe : pq_B t σ (I, J, ri, rj, rq) s.heap.size = A at hD ⊢
  have hA : ∀ q : Nat, s.heap.size ≤ q → A q := fun q h => by rw [← hAe]; exact Or.inr h
  have hS : va_S A s.heap s.heap [] := va_S.rf
  have hG : GX [193] tg σ I ri rj I ri rj rq := ⟨hG0, fun _ _ _ => rfl, fun _ _ _ _ _ => rfl, fun _ _ _ _ _ => rfl⟩
  have hl := lv_entry ([.ref this, .int a0]) (n := 3) (Nat.le_of_ble_eq_true rfl)
  rw [lg_entry_eq]
  generalize (lg_sl ([.ref this, .int a0]) ++ List.replicate (3 - (lg_sl ([.ref this, .int a0])).length) Slot.unset).toArray = ls at hl ⊢
  have hl : lv_has ls 3 [(0, .ref this), (1, .int a0)] := hl
  refine q_gen (fun Q hQ => ?_)
  have go : ∀ (H : Heap) (locs : List Loc) (ls : Array Slot), va_P D vwCl (pq_P t σ (I, J, ri, rj, rq)) H → va_D A (pq_P t σ (I, J, ri, rj, rq)) → va_S A s.heap H locs → lv_has ls 3 [(0, .ref this), (1, .int a0)] → W p l e ({ frames := 0, cells := 0, slots := 0, locals := 0 } : Room) s m (List.toArray ([.ref this, .int a0] : List Value)) below meth c H locs 0 0 Q (F0 m 0 ls []) := by
    intro H locs ls hP hD hS hl
    refine lv_bipush (v := 24) hx hb dX6_append_0 (by decide) ?_
    refine lv_istore_n (lv' := [(2, .int 24), (0, .ref this), (1, .int a0)]) hx hb dX6_append_2 rfl hl (by decide) rfl (fun ls hl => ?_)
    have L_153 : ∀ (n_152 : Nat) (x_131 : Int32) (I_132 : Nat → Nat → Int32) (ri_133 : Nat → Nat → Int32) (H : Heap) (locs : List Loc) (ls : Array Slot), rg x_131 (-8) 24 → ((x_131).toInt - (-8)).toNat < n_152 → GX [193] tg σ I ri rj I_132 ri_133 rj rq → va_P D vwCl (pq_P t σ (I_132, J, ri_133, rj, rq)) H → va_D A (pq_P t σ (I_132, J, ri_133, rj, rq)) → va_S A s.heap H locs → lv_has ls 3 [(0, .ref this), (1, .int a0), (2, .int x_131)] → W p l e ({ frames := 0, cells := 0, slots := 0, locals := 0 } : Room) s m (List.toArray ([.ref this, .int a0] : List Value)) below meth c H locs 0 0 Q (F0 m 3 ls []) := by
      intro n_152
      induction n_152 with
      | zero => intro x_131 I_132 ri_133 H locs ls h_156 hm_151 hG hP hD hS hl; exact absurd hm_151 (Nat.not_lt_zero _)
      | succ n_152 ih_154 =>
        intro x_131 I_132 ri_133 H locs ls h_156 hm_151 hG hP hD hS hl
        refine lv_iload_n hx hb dX6_append_3 rfl (lv_at hl 2 rfl) ?_
        refine lv_if_lt (tgt := 49) hx hb dX6_append_4 (by decide) (fun c_157 => ?_) (fun c_157 => ?_)
        · have h_158 : rg x_131 (-8) (-1) := rg_lt1 c_157 h_156 (rg_k (0 : Int32) 0 rfl) (by decide)
          subst hQ
          exact W.vret hx hb hr (fun t1 ht hW => ⟨⟨(σ, I_132, J, ri_133, rj, rq), rfl, ⟨I_132, ri_133, rfl, hG⟩, by rw [ht]; exact hP, va_K.moved hW.alike hK, hD⟩, hS.F ht⟩) hS.2.2 dX6_append_49
        · have h_159 : rg x_131 0 24 := rg_le2 (nlt c_157) (rg_k (0 : Int32) 0 rfl) h_156 (by decide)
          refine lv_aload_n hx hb dX6_append_7 rfl (lv_at hl 0 rfl) ?_
          refine pg_f (v := .int (I_132 193 this)) (C := RX6) (T := TX6) (N := 6) hx hb hts (tw_i inlX6) hown hK hP hL_this hK_this (by decide) rfl 1 (by decide) (hts _ (tw_c tw_626)) rfl dX6_append_8 ?_
          have h_160 : rg (I_132 193 this) 0 300 := GX.rI hG 193 rfl
          refine lv_sipush (v := 300) hx hb dX6_append_11 (by decide) ?_
          refine lv_icmp_ge (tgt := 49) hx hb dX6_append_14 (by decide) (fun c_161 => ?_) (fun c_161 => ?_)
          · have h_162 : rg (I_132 193 this) 300 300 := rg_le2 c_161 (rg_k (300 : Int32) 300 rfl) h_160 (by decide)
            subst hQ
            exact W.vret hx hb hr (fun t1 ht hW => ⟨⟨(σ, I_132, J, ri_133, rj, rq), rfl, ⟨I_132, ri_133, rfl, hG⟩, by rw [ht]; exact hP, va_K.moved hW.alike hK, hD⟩, hS.F ht⟩) hS.2.2 dX6_append_49
          · have h_163 : rg (I_132 193 this) 0 299 := rg_lt1 (nle c_161) h_160 (rg_k (300 : Int32) 300 rfl) (by decide)
            refine lv_aload_n hx hb dX6_append_17 rfl (lv_at hl 0 rfl) ?_
            obtain ⟨w_164, hR_w_164, hL_w_164, hK_w_164, hN_w_164, hT_w_164⟩ := sh_a hSH 192 (ci := 6) (kd := 13) (len := 300) rfl (by decide) hL_this hK_this
            refine pg_f (v := .ref w_164) (C := RX6) (T := TX6) (N := 6) hx hb hts (tw_i inlX6) hown hK hP hL_this hK_this (by decide) rfl 0 (by decide) (hts _ (tw_c tw_165)) (pq_hv rfl hR_w_164) dX6_append_18 ?_
            refine lv_aload_n hx hb dX6_append_21 rfl (lv_at hl 0 rfl) ?_
            refine pg_f (v := .int (I_132 193 this)) (C := RX6) (T := TX6) (N := 6) hx hb hts (tw_i inlX6) hown hK hP hL_this hK_this (by decide) rfl 1 (by decide) (hts _ (tw_c tw_626)) rfl dX6_append_22 ?_
            refine lv_iload_n hx hb dX6_append_25 rfl (lv_at hl 1 rfl) ?_
            refine lv_iload_n hx hb dX6_append_26 rfl (lv_at hl 2 rfl) ?_
            refine lv_iushr hx hb dX6_append_27 rfl ?_
            refine lv_topi (fun x_165 ex_165 => ?_)
            refine lv_sipush (v := 255) hx hb dX6_append_28 (by decide) ?_
            refine lv_iand hx hb dX6_append_31 ?_
            refine lv_topi (fun x_166 ex_166 => ?_)
            refine pt_i hx hb hK hP hD hS hL_w_164 hK_w_164 hN_w_164 (rg_in h_163 (by decide)) dX6_append_32 (fun r_167 H locs er_167 hP hD hS => ?_)
            have hG := GX.wR hG hSH hT_w_164 rfl er_167 (rg_w (rg_full _) (by decide)) (by decide)
            refine lv_aload_n hx hb dX6_append_33 rfl (lv_at hl 0 rfl) ?_
            refine lv_dup hx hb dX6_append_34 rfl ?_
            refine pg_f (v := .int (I_132 193 this)) (C := RX6) (T := TX6) (N := 6) hx hb hts (tw_i inlX6) hown hK hP hL_this hK_this (by decide) rfl 1 (by decide) (hts _ (tw_c tw_626)) rfl dX6_append_35 ?_
            refine lv_iconst (v := 1) hx hb dX6_append_38 (by decide) ?_
            refine lv_iadd hx hb dX6_append_39 ?_
            refine lv_topi (fun x_168 ex_168 => ?_)
            have h_169 : rg x_168 1 300 := rg_of_eq ex_168 (rg_add h_163 (rg_k (1 : Int32) 1 rfl) (by decide))
            refine pp_i (v := x_168) (ty := .int) (C := RX6) (T := TX6) (N := 6) hx hb hts (tw_i inlX6) tyX6 tyX6_ok nmX6 hown hK hP hD hS hL_this hK_this (by decide) rfl 1 193 (by decide) (hts _ (tw_c tw_626)) rfl (tyX6_ok 1 (by decide)) rfl rfl (Nat.le_of_ble_eq_true rfl) (ps_193 _ _ _ _ _) dX6_append_40 (fun I_170 H locs eI_170 hP hD hS => ?_)
            have hG := GX.wI hG 193 rfl eI_170 (rg_w h_169 (by decide)) (by decide)
            obtain ⟨x_171, ex_171⟩ : ∃ y : Int32, y = x_131 + Int32.ofInt (-8) := ⟨_, rfl⟩
            have h_172 : rg x_171 (-8) 16 := rg_of_eq ex_171 (rg_add h_159 (rg_k (Int32.ofInt (-8)) (-8) rfl) (by decide))
            refine lv_iinc (v := x_171) (lv' := [(2, .int x_171), (0, .ref this), (1, .int a0)]) hx hb dX6_append_43 hl (k := 2) rfl ex_171.symm (by decide) rfl (fun ls hl => ?_)
            refine lv_goto (tgt := 3) hx hb dX6_append_46 (by decide) ?_
            exact ih_154 x_171 I_170 r_167 _ _ _ (rg_w h_172 (by decide)) (ms_dn 8 hm_151 ex_171 rfl (by decide) h_159 (by decide) (by decide)) hG hP hD hS (lv_sub hl [1, 2, 0] rfl)
    exact L_153 _ (24 : Int32) I ri _ _ _ (rg_w (rg_k (24 : Int32) 24 rfl) (by decide)) (Nat.lt_succ_self _) hG hP hD hS (lv_sub hl [1, 2, 0] rfl)
  exact go _ _ _ hP hD hS hl

set_option maxHeartbeats 4000000 in
set_option maxRecDepth 100000 in
theorem s_X6_rewind (l : Launch) (D : va_G) (t : pq_T) (σ : pq_S) (I : Nat → Nat → Int32) (J : Nat → Nat → Int64) (ri : Nat → Nat → Int32) (rj : Nat → Nat → Int64) (rq : Nat → Nat → Option Nat) (sz : Nat) (tg : Nat → Nat) (hSH : SH σ tg) (hG0 : GS tg σ I ri rq) (this : Nat) (hL_this : this ∈ σ.1) (hK_this : σ.2.1 this = 6) : MetV l yX6_rewind (wa yX6_rewind cX6_rewind 1 none) ({ frames := 0, cells := 0, slots := 0, locals := 0 }) [.ref this] D t σ (I, J, ri, rj, rq) sz 0 0 (fun (u : pq_S × pq_M) => ∃ I' : Nat → Nat → Int32, u = (σ, I', J, ri, rj, rq) ∧ GX [197] tg σ I ri rj I' ri rj rq) := by
  refine Met.ofW (cc := cX6_rewind) (maxL := 1) (ret := none) (by decide) rfl ?_
  intro p e s m args below meth c s₁ B hml hv
  obtain ⟨rfl, hsz, hP, hK, hD0, hN⟩ := hv
  have hx := B.exec
  have hb := B.bytes
  have hr := B.returns
  have hts := atoms_spec (ws := (wa yX6_rewind cX6_rewind 1 none)) B.pre
  have hown : s.vm.findClass RX6 = some m.cls := findClass_of_methodNamed B.named
  have hlocks := B.notSynchronized
  subst hsz
  have hD : va_D (pq_B t σ (I, J, ri, rj, rq) s.heap.size) (pq_P t σ (I, J, ri, rj, rq)) := hD0.self
  generalize hAe : pq_B t σ (I, J, ri, rj, rq) s.heap.size = A at hD ⊢
  have hA : ∀ q : Nat, s.heap.size ≤ q → A q := fun q h => by rw [← hAe]; exact Or.inr h
  have hS : va_S A s.heap s.heap [] := va_S.rf
  have hG : GX [197] tg σ I ri rj I ri rj rq := ⟨hG0, fun _ _ _ => rfl, fun _ _ _ _ _ => rfl, fun _ _ _ _ _ => rfl⟩
  have hl := lv_entry ([.ref this]) (n := 1) (Nat.le_of_ble_eq_true rfl)
  rw [lg_entry_eq]
  generalize (lg_sl ([.ref this]) ++ List.replicate (1 - (lg_sl ([.ref this])).length) Slot.unset).toArray = ls at hl ⊢
  have hl : lv_has ls 1 [(0, .ref this)] := hl
  refine q_gen (fun Q hQ => ?_)
  have go : ∀ (H : Heap) (locs : List Loc) (ls : Array Slot), va_P D vwCl (pq_P t σ (I, J, ri, rj, rq)) H → va_D A (pq_P t σ (I, J, ri, rj, rq)) → va_S A s.heap H locs → lv_has ls 1 [(0, .ref this)] → W p l e ({ frames := 0, cells := 0, slots := 0, locals := 0 } : Room) s m (List.toArray ([.ref this] : List Value)) below meth c H locs 0 0 Q (F0 m 0 ls []) := by
    intro H locs ls hP hD hS hl
    refine lv_aload_n hx hb dX6_rewind_0 rfl (lv_at hl 0 rfl) ?_
    refine lv_iconst (v := 0) hx hb dX6_rewind_1 (by decide) ?_
    refine pp_i (v := 0) (ty := .int) (C := RX6) (T := TX6) (N := 6) hx hb hts (tw_i inlX6) tyX6 tyX6_ok nmX6 hown hK hP hD hS hL_this hK_this (by decide) rfl 5 197 (by decide) (hts _ (tw_c tw_662)) rfl (tyX6_ok 5 (by decide)) rfl rfl (Nat.le_of_ble_eq_true rfl) (ps_197 _ _ _ _ _) dX6_rewind_2 (fun I_1 H locs eI_1 hP hD hS => ?_)
    have hG := GX.wI hG 197 rfl eI_1 (rg_w (rg_k (0 : Int32) 0 rfl) (by decide)) (by decide)
    subst hQ
    exact W.vret hx hb hr (fun t1 ht hW => ⟨⟨(σ, I_1, J, ri, rj, rq), rfl, ⟨I_1, rfl, hG⟩, by rw [ht]; exact hP, va_K.moved hW.alike hK, hD⟩, hS.F ht⟩) hS.2.2 dX6_rewind_5
  exact go _ _ _ hP hD hS hl

set_option maxHeartbeats 4000000 in
set_option maxRecDepth 100000 in
theorem s_X6_signOf (l : Launch) (D : va_G) (t : pq_T) (σ : pq_S) (I : Nat → Nat → Int32) (J : Nat → Nat → Int64) (ri : Nat → Nat → Int32) (rj : Nat → Nat → Int64) (rq : Nat → Nat → Option Nat) (sz : Nat) (tg : Nat → Nat) (hSH : SH σ tg) (hG0 : GS tg σ I ri rq) (a0 : Int32) : MetI l yX6_signOf (wa yX6_signOf cX6_signOf 1 (some .int)) ({ frames := 0, cells := 0, slots := 0, locals := 0 }) [.int a0] D t σ (I, J, ri, rj, rq) sz 0 0 (fun (r : Int32) (u : pq_S × pq_M) => u = (σ, I, J, ri, rj, rq) ∧ rg r 19 34) := by
  refine Met.ofW (cc := cX6_signOf) (maxL := 1) (ret := (some .int)) (by decide) rfl ?_
  intro p e s m args below meth c s₁ B hml hv
  obtain ⟨rfl, hsz, hP, hK, hD0, hN⟩ := hv
  have hx := B.exec
  have hb := B.bytes
  have hr := B.returns
  have hts := atoms_spec (ws := (wa yX6_signOf cX6_signOf 1 (some .int))) B.pre
  have hown : s.vm.findClass RX6 = some m.cls := findClass_of_methodNamed B.named
  have hlocks := B.notSynchronized
  subst hsz
  have hD : va_D (pq_B t σ (I, J, ri, rj, rq) s.heap.size) (pq_P t σ (I, J, ri, rj, rq)) := hD0.self
  generalize hAe : pq_B t σ (I, J, ri, rj, rq) s.heap.size = A at hD ⊢
  have hA : ∀ q : Nat, s.heap.size ≤ q → A q := fun q h => by rw [← hAe]; exact Or.inr h
  have hS : va_S A s.heap s.heap [] := va_S.rf
  have hG : GX [] tg σ I ri rj I ri rj rq := ⟨hG0, fun _ _ _ => rfl, fun _ _ _ _ _ => rfl, fun _ _ _ _ _ => rfl⟩
  have hl := lv_entry ([.int a0]) (n := 1) (Nat.le_of_ble_eq_true rfl)
  rw [lg_entry_eq]
  generalize (lg_sl ([.int a0]) ++ List.replicate (1 - (lg_sl ([.int a0])).length) Slot.unset).toArray = ls at hl ⊢
  have hl : lv_has ls 1 [(0, .int a0)] := hl
  refine q_gen (fun Q hQ => ?_)
  have go : ∀ (H : Heap) (locs : List Loc) (ls : Array Slot), va_P D vwCl (pq_P t σ (I, J, ri, rj, rq)) H → va_D A (pq_P t σ (I, J, ri, rj, rq)) → va_S A s.heap H locs → lv_has ls 1 [(0, .int a0)] → W p l e ({ frames := 0, cells := 0, slots := 0, locals := 0 } : Room) s m (List.toArray ([.int a0] : List Value)) below meth c H locs 0 0 Q (F0 m 0 ls []) := by
    intro H locs ls hP hD hS hl
    refine lv_iload_n hx hb dX6_signOf_0 rfl (lv_at hl 0 rfl) ?_
    by_cases k_1 : a0 = (35 : Int32)
    · have h_2 : rg a0 35 35 := rg_and (rg_full _) (rg_of_eq k_1 (rg_k (35 : Int32) 35 rfl)) (by decide)
      refine lv_tov 35 k_1 ?_
      refine lv_tableIn (tgt := 137) hx hb dX6_signOf_1 (by decide) (by decide) rfl (by decide) ?_
      refine lv_bipush (v := 24) hx hb dX6_signOf_137 (by decide) ?_
      subst hQ
      exact W.iret (v := 24) hx hb hr (fun t1 ht hW => ⟨⟨24, (σ, I, J, ri, rj, rq), rfl, ⟨rfl, (rg_w (rg_k (24 : Int32) 24 rfl) (by decide))⟩, by rw [ht]; exact hP, va_K.moved hW.alike hK, hD⟩, hS.F ht⟩) hS.2.2 dX6_signOf_139
    by_cases k_3 : a0 = (36 : Int32)
    · have h_4 : rg a0 36 36 := rg_and (rg_full _) (rg_of_eq k_3 (rg_k (36 : Int32) 36 rfl)) (by decide)
      refine lv_tov 36 k_3 ?_
      refine lv_tableIn (tgt := 164) hx hb dX6_signOf_1 (by decide) (by decide) rfl (by decide) ?_
      refine lv_bipush (v := 34) hx hb dX6_signOf_164 (by decide) ?_
      subst hQ
      exact W.iret (v := 34) hx hb hr (fun t1 ht hW => ⟨⟨34, (σ, I, J, ri, rj, rq), rfl, ⟨rfl, (rg_w (rg_k (34 : Int32) 34 rfl) (by decide))⟩, by rw [ht]; exact hP, va_K.moved hW.alike hK, hD⟩, hS.F ht⟩) hS.2.2 dX6_signOf_166
    by_cases k_5 : a0 = (37 : Int32)
    · have h_6 : rg a0 37 37 := rg_and (rg_full _) (rg_of_eq k_5 (rg_k (37 : Int32) 37 rfl)) (by decide)
      refine lv_tov 37 k_5 ?_
      refine lv_tableIn (tgt := 164) hx hb dX6_signOf_1 (by decide) (by decide) rfl (by decide) ?_
      refine lv_bipush (v := 34) hx hb dX6_signOf_164 (by decide) ?_
      subst hQ
      exact W.iret (v := 34) hx hb hr (fun t1 ht hW => ⟨⟨34, (σ, I, J, ri, rj, rq), rfl, ⟨rfl, (rg_w (rg_k (34 : Int32) 34 rfl) (by decide))⟩, by rw [ht]; exact hP, va_K.moved hW.alike hK, hD⟩, hS.F ht⟩) hS.2.2 dX6_signOf_166
    by_cases k_7 : a0 = (38 : Int32)
    · have h_8 : rg a0 38 38 := rg_and (rg_full _) (rg_of_eq k_7 (rg_k (38 : Int32) 38 rfl)) (by decide)
      refine lv_tov 38 k_7 ?_
      refine lv_tableIn (tgt := 164) hx hb dX6_signOf_1 (by decide) (by decide) rfl (by decide) ?_
      refine lv_bipush (v := 34) hx hb dX6_signOf_164 (by decide) ?_
      subst hQ
      exact W.iret (v := 34) hx hb hr (fun t1 ht hW => ⟨⟨34, (σ, I, J, ri, rj, rq), rfl, ⟨rfl, (rg_w (rg_k (34 : Int32) 34 rfl) (by decide))⟩, by rw [ht]; exact hP, va_K.moved hW.alike hK, hD⟩, hS.F ht⟩) hS.2.2 dX6_signOf_166
    by_cases k_9 : a0 = (39 : Int32)
    · have h_10 : rg a0 39 39 := rg_and (rg_full _) (rg_of_eq k_9 (rg_k (39 : Int32) 39 rfl)) (by decide)
      refine lv_tov 39 k_9 ?_
      refine lv_tableIn (tgt := 164) hx hb dX6_signOf_1 (by decide) (by decide) rfl (by decide) ?_
      refine lv_bipush (v := 34) hx hb dX6_signOf_164 (by decide) ?_
      subst hQ
      exact W.iret (v := 34) hx hb hr (fun t1 ht hW => ⟨⟨34, (σ, I, J, ri, rj, rq), rfl, ⟨rfl, (rg_w (rg_k (34 : Int32) 34 rfl) (by decide))⟩, by rw [ht]; exact hP, va_K.moved hW.alike hK, hD⟩, hS.F ht⟩) hS.2.2 dX6_signOf_166
    by_cases k_11 : a0 = (40 : Int32)
    · have h_12 : rg a0 40 40 := rg_and (rg_full _) (rg_of_eq k_11 (rg_k (40 : Int32) 40 rfl)) (by decide)
      refine lv_tov 40 k_11 ?_
      refine lv_tableIn (tgt := 152) hx hb dX6_signOf_1 (by decide) (by decide) rfl (by decide) ?_
      refine lv_bipush (v := 29) hx hb dX6_signOf_152 (by decide) ?_
      subst hQ
      exact W.iret (v := 29) hx hb hr (fun t1 ht hW => ⟨⟨29, (σ, I, J, ri, rj, rq), rfl, ⟨rfl, (rg_w (rg_k (29 : Int32) 29 rfl) (by decide))⟩, by rw [ht]; exact hP, va_K.moved hW.alike hK, hD⟩, hS.F ht⟩) hS.2.2 dX6_signOf_154
    by_cases k_13 : a0 = (41 : Int32)
    · have h_14 : rg a0 41 41 := rg_and (rg_full _) (rg_of_eq k_13 (rg_k (41 : Int32) 41 rfl)) (by decide)
      refine lv_tov 41 k_13 ?_
      refine lv_tableIn (tgt := 155) hx hb dX6_signOf_1 (by decide) (by decide) rfl (by decide) ?_
      refine lv_bipush (v := 30) hx hb dX6_signOf_155 (by decide) ?_
      subst hQ
      exact W.iret (v := 30) hx hb hr (fun t1 ht hW => ⟨⟨30, (σ, I, J, ri, rj, rq), rfl, ⟨rfl, (rg_w (rg_k (30 : Int32) 30 rfl) (by decide))⟩, by rw [ht]; exact hP, va_K.moved hW.alike hK, hD⟩, hS.F ht⟩) hS.2.2 dX6_signOf_157
    by_cases k_15 : a0 = (42 : Int32)
    · have h_16 : rg a0 42 42 := rg_and (rg_full _) (rg_of_eq k_15 (rg_k (42 : Int32) 42 rfl)) (by decide)
      refine lv_tov 42 k_15 ?_
      refine lv_tableIn (tgt := 146) hx hb dX6_signOf_1 (by decide) (by decide) rfl (by decide) ?_
      refine lv_bipush (v := 27) hx hb dX6_signOf_146 (by decide) ?_
      subst hQ
      exact W.iret (v := 27) hx hb hr (fun t1 ht hW => ⟨⟨27, (σ, I, J, ri, rj, rq), rfl, ⟨rfl, (rg_w (rg_k (27 : Int32) 27 rfl) (by decide))⟩, by rw [ht]; exact hP, va_K.moved hW.alike hK, hD⟩, hS.F ht⟩) hS.2.2 dX6_signOf_148
    by_cases k_17 : a0 = (43 : Int32)
    · have h_18 : rg a0 43 43 := rg_and (rg_full _) (rg_of_eq k_17 (rg_k (43 : Int32) 43 rfl)) (by decide)
      refine lv_tov 43 k_17 ?_
      refine lv_tableIn (tgt := 140) hx hb dX6_signOf_1 (by decide) (by decide) rfl (by decide) ?_
      refine lv_bipush (v := 25) hx hb dX6_signOf_140 (by decide) ?_
      subst hQ
      exact W.iret (v := 25) hx hb hr (fun t1 ht hW => ⟨⟨25, (σ, I, J, ri, rj, rq), rfl, ⟨rfl, (rg_w (rg_k (25 : Int32) 25 rfl) (by decide))⟩, by rw [ht]; exact hP, va_K.moved hW.alike hK, hD⟩, hS.F ht⟩) hS.2.2 dX6_signOf_142
    by_cases k_19 : a0 = (44 : Int32)
    · have h_20 : rg a0 44 44 := rg_and (rg_full _) (rg_of_eq k_19 (rg_k (44 : Int32) 44 rfl)) (by decide)
      refine lv_tov 44 k_19 ?_
      refine lv_tableIn (tgt := 158) hx hb dX6_signOf_1 (by decide) (by decide) rfl (by decide) ?_
      refine lv_bipush (v := 31) hx hb dX6_signOf_158 (by decide) ?_
      subst hQ
      exact W.iret (v := 31) hx hb hr (fun t1 ht hW => ⟨⟨31, (σ, I, J, ri, rj, rq), rfl, ⟨rfl, (rg_w (rg_k (31 : Int32) 31 rfl) (by decide))⟩, by rw [ht]; exact hP, va_K.moved hW.alike hK, hD⟩, hS.F ht⟩) hS.2.2 dX6_signOf_160
    by_cases k_21 : a0 = (45 : Int32)
    · have h_22 : rg a0 45 45 := rg_and (rg_full _) (rg_of_eq k_21 (rg_k (45 : Int32) 45 rfl)) (by decide)
      refine lv_tov 45 k_21 ?_
      refine lv_tableIn (tgt := 143) hx hb dX6_signOf_1 (by decide) (by decide) rfl (by decide) ?_
      refine lv_bipush (v := 26) hx hb dX6_signOf_143 (by decide) ?_
      subst hQ
      exact W.iret (v := 26) hx hb hr (fun t1 ht hW => ⟨⟨26, (σ, I, J, ri, rj, rq), rfl, ⟨rfl, (rg_w (rg_k (26 : Int32) 26 rfl) (by decide))⟩, by rw [ht]; exact hP, va_K.moved hW.alike hK, hD⟩, hS.F ht⟩) hS.2.2 dX6_signOf_145
    by_cases k_23 : a0 = (46 : Int32)
    · have h_24 : rg a0 46 46 := rg_and (rg_full _) (rg_of_eq k_23 (rg_k (46 : Int32) 46 rfl)) (by decide)
      refine lv_tov 46 k_23 ?_
      refine lv_tableIn (tgt := 164) hx hb dX6_signOf_1 (by decide) (by decide) rfl (by decide) ?_
      refine lv_bipush (v := 34) hx hb dX6_signOf_164 (by decide) ?_
      subst hQ
      exact W.iret (v := 34) hx hb hr (fun t1 ht hW => ⟨⟨34, (σ, I, J, ri, rj, rq), rfl, ⟨rfl, (rg_w (rg_k (34 : Int32) 34 rfl) (by decide))⟩, by rw [ht]; exact hP, va_K.moved hW.alike hK, hD⟩, hS.F ht⟩) hS.2.2 dX6_signOf_166
    by_cases k_25 : a0 = (47 : Int32)
    · have h_26 : rg a0 47 47 := rg_and (rg_full _) (rg_of_eq k_25 (rg_k (47 : Int32) 47 rfl)) (by decide)
      refine lv_tov 47 k_25 ?_
      refine lv_tableIn (tgt := 149) hx hb dX6_signOf_1 (by decide) (by decide) rfl (by decide) ?_
      refine lv_bipush (v := 28) hx hb dX6_signOf_149 (by decide) ?_
      subst hQ
      exact W.iret (v := 28) hx hb hr (fun t1 ht hW => ⟨⟨28, (σ, I, J, ri, rj, rq), rfl, ⟨rfl, (rg_w (rg_k (28 : Int32) 28 rfl) (by decide))⟩, by rw [ht]; exact hP, va_K.moved hW.alike hK, hD⟩, hS.F ht⟩) hS.2.2 dX6_signOf_151
    by_cases k_27 : a0 = (48 : Int32)
    · have h_28 : rg a0 48 48 := rg_and (rg_full _) (rg_of_eq k_27 (rg_k (48 : Int32) 48 rfl)) (by decide)
      refine lv_tov 48 k_27 ?_
      refine lv_tableIn (tgt := 164) hx hb dX6_signOf_1 (by decide) (by decide) rfl (by decide) ?_
      refine lv_bipush (v := 34) hx hb dX6_signOf_164 (by decide) ?_
      subst hQ
      exact W.iret (v := 34) hx hb hr (fun t1 ht hW => ⟨⟨34, (σ, I, J, ri, rj, rq), rfl, ⟨rfl, (rg_w (rg_k (34 : Int32) 34 rfl) (by decide))⟩, by rw [ht]; exact hP, va_K.moved hW.alike hK, hD⟩, hS.F ht⟩) hS.2.2 dX6_signOf_166
    by_cases k_29 : a0 = (49 : Int32)
    · have h_30 : rg a0 49 49 := rg_and (rg_full _) (rg_of_eq k_29 (rg_k (49 : Int32) 49 rfl)) (by decide)
      refine lv_tov 49 k_29 ?_
      refine lv_tableIn (tgt := 164) hx hb dX6_signOf_1 (by decide) (by decide) rfl (by decide) ?_
      refine lv_bipush (v := 34) hx hb dX6_signOf_164 (by decide) ?_
      subst hQ
      exact W.iret (v := 34) hx hb hr (fun t1 ht hW => ⟨⟨34, (σ, I, J, ri, rj, rq), rfl, ⟨rfl, (rg_w (rg_k (34 : Int32) 34 rfl) (by decide))⟩, by rw [ht]; exact hP, va_K.moved hW.alike hK, hD⟩, hS.F ht⟩) hS.2.2 dX6_signOf_166
    by_cases k_31 : a0 = (50 : Int32)
    · have h_32 : rg a0 50 50 := rg_and (rg_full _) (rg_of_eq k_31 (rg_k (50 : Int32) 50 rfl)) (by decide)
      refine lv_tov 50 k_31 ?_
      refine lv_tableIn (tgt := 164) hx hb dX6_signOf_1 (by decide) (by decide) rfl (by decide) ?_
      refine lv_bipush (v := 34) hx hb dX6_signOf_164 (by decide) ?_
      subst hQ
      exact W.iret (v := 34) hx hb hr (fun t1 ht hW => ⟨⟨34, (σ, I, J, ri, rj, rq), rfl, ⟨rfl, (rg_w (rg_k (34 : Int32) 34 rfl) (by decide))⟩, by rw [ht]; exact hP, va_K.moved hW.alike hK, hD⟩, hS.F ht⟩) hS.2.2 dX6_signOf_166
    by_cases k_33 : a0 = (51 : Int32)
    · have h_34 : rg a0 51 51 := rg_and (rg_full _) (rg_of_eq k_33 (rg_k (51 : Int32) 51 rfl)) (by decide)
      refine lv_tov 51 k_33 ?_
      refine lv_tableIn (tgt := 164) hx hb dX6_signOf_1 (by decide) (by decide) rfl (by decide) ?_
      refine lv_bipush (v := 34) hx hb dX6_signOf_164 (by decide) ?_
      subst hQ
      exact W.iret (v := 34) hx hb hr (fun t1 ht hW => ⟨⟨34, (σ, I, J, ri, rj, rq), rfl, ⟨rfl, (rg_w (rg_k (34 : Int32) 34 rfl) (by decide))⟩, by rw [ht]; exact hP, va_K.moved hW.alike hK, hD⟩, hS.F ht⟩) hS.2.2 dX6_signOf_166
    by_cases k_35 : a0 = (52 : Int32)
    · have h_36 : rg a0 52 52 := rg_and (rg_full _) (rg_of_eq k_35 (rg_k (52 : Int32) 52 rfl)) (by decide)
      refine lv_tov 52 k_35 ?_
      refine lv_tableIn (tgt := 164) hx hb dX6_signOf_1 (by decide) (by decide) rfl (by decide) ?_
      refine lv_bipush (v := 34) hx hb dX6_signOf_164 (by decide) ?_
      subst hQ
      exact W.iret (v := 34) hx hb hr (fun t1 ht hW => ⟨⟨34, (σ, I, J, ri, rj, rq), rfl, ⟨rfl, (rg_w (rg_k (34 : Int32) 34 rfl) (by decide))⟩, by rw [ht]; exact hP, va_K.moved hW.alike hK, hD⟩, hS.F ht⟩) hS.2.2 dX6_signOf_166
    by_cases k_37 : a0 = (53 : Int32)
    · have h_38 : rg a0 53 53 := rg_and (rg_full _) (rg_of_eq k_37 (rg_k (53 : Int32) 53 rfl)) (by decide)
      refine lv_tov 53 k_37 ?_
      refine lv_tableIn (tgt := 164) hx hb dX6_signOf_1 (by decide) (by decide) rfl (by decide) ?_
      refine lv_bipush (v := 34) hx hb dX6_signOf_164 (by decide) ?_
      subst hQ
      exact W.iret (v := 34) hx hb hr (fun t1 ht hW => ⟨⟨34, (σ, I, J, ri, rj, rq), rfl, ⟨rfl, (rg_w (rg_k (34 : Int32) 34 rfl) (by decide))⟩, by rw [ht]; exact hP, va_K.moved hW.alike hK, hD⟩, hS.F ht⟩) hS.2.2 dX6_signOf_166
    by_cases k_39 : a0 = (54 : Int32)
    · have h_40 : rg a0 54 54 := rg_and (rg_full _) (rg_of_eq k_39 (rg_k (54 : Int32) 54 rfl)) (by decide)
      refine lv_tov 54 k_39 ?_
      refine lv_tableIn (tgt := 164) hx hb dX6_signOf_1 (by decide) (by decide) rfl (by decide) ?_
      refine lv_bipush (v := 34) hx hb dX6_signOf_164 (by decide) ?_
      subst hQ
      exact W.iret (v := 34) hx hb hr (fun t1 ht hW => ⟨⟨34, (σ, I, J, ri, rj, rq), rfl, ⟨rfl, (rg_w (rg_k (34 : Int32) 34 rfl) (by decide))⟩, by rw [ht]; exact hP, va_K.moved hW.alike hK, hD⟩, hS.F ht⟩) hS.2.2 dX6_signOf_166
    by_cases k_41 : a0 = (55 : Int32)
    · have h_42 : rg a0 55 55 := rg_and (rg_full _) (rg_of_eq k_41 (rg_k (55 : Int32) 55 rfl)) (by decide)
      refine lv_tov 55 k_41 ?_
      refine lv_tableIn (tgt := 164) hx hb dX6_signOf_1 (by decide) (by decide) rfl (by decide) ?_
      refine lv_bipush (v := 34) hx hb dX6_signOf_164 (by decide) ?_
      subst hQ
      exact W.iret (v := 34) hx hb hr (fun t1 ht hW => ⟨⟨34, (σ, I, J, ri, rj, rq), rfl, ⟨rfl, (rg_w (rg_k (34 : Int32) 34 rfl) (by decide))⟩, by rw [ht]; exact hP, va_K.moved hW.alike hK, hD⟩, hS.F ht⟩) hS.2.2 dX6_signOf_166
    by_cases k_43 : a0 = (56 : Int32)
    · have h_44 : rg a0 56 56 := rg_and (rg_full _) (rg_of_eq k_43 (rg_k (56 : Int32) 56 rfl)) (by decide)
      refine lv_tov 56 k_43 ?_
      refine lv_tableIn (tgt := 164) hx hb dX6_signOf_1 (by decide) (by decide) rfl (by decide) ?_
      refine lv_bipush (v := 34) hx hb dX6_signOf_164 (by decide) ?_
      subst hQ
      exact W.iret (v := 34) hx hb hr (fun t1 ht hW => ⟨⟨34, (σ, I, J, ri, rj, rq), rfl, ⟨rfl, (rg_w (rg_k (34 : Int32) 34 rfl) (by decide))⟩, by rw [ht]; exact hP, va_K.moved hW.alike hK, hD⟩, hS.F ht⟩) hS.2.2 dX6_signOf_166
    by_cases k_45 : a0 = (57 : Int32)
    · have h_46 : rg a0 57 57 := rg_and (rg_full _) (rg_of_eq k_45 (rg_k (57 : Int32) 57 rfl)) (by decide)
      refine lv_tov 57 k_45 ?_
      refine lv_tableIn (tgt := 164) hx hb dX6_signOf_1 (by decide) (by decide) rfl (by decide) ?_
      refine lv_bipush (v := 34) hx hb dX6_signOf_164 (by decide) ?_
      subst hQ
      exact W.iret (v := 34) hx hb hr (fun t1 ht hW => ⟨⟨34, (σ, I, J, ri, rj, rq), rfl, ⟨rfl, (rg_w (rg_k (34 : Int32) 34 rfl) (by decide))⟩, by rw [ht]; exact hP, va_K.moved hW.alike hK, hD⟩, hS.F ht⟩) hS.2.2 dX6_signOf_166
    by_cases k_47 : a0 = (58 : Int32)
    · have h_48 : rg a0 58 58 := rg_and (rg_full _) (rg_of_eq k_47 (rg_k (58 : Int32) 58 rfl)) (by decide)
      refine lv_tov 58 k_47 ?_
      refine lv_tableIn (tgt := 164) hx hb dX6_signOf_1 (by decide) (by decide) rfl (by decide) ?_
      refine lv_bipush (v := 34) hx hb dX6_signOf_164 (by decide) ?_
      subst hQ
      exact W.iret (v := 34) hx hb hr (fun t1 ht hW => ⟨⟨34, (σ, I, J, ri, rj, rq), rfl, ⟨rfl, (rg_w (rg_k (34 : Int32) 34 rfl) (by decide))⟩, by rw [ht]; exact hP, va_K.moved hW.alike hK, hD⟩, hS.F ht⟩) hS.2.2 dX6_signOf_166
    by_cases k_49 : a0 = (59 : Int32)
    · have h_50 : rg a0 59 59 := rg_and (rg_full _) (rg_of_eq k_49 (rg_k (59 : Int32) 59 rfl)) (by decide)
      refine lv_tov 59 k_49 ?_
      refine lv_tableIn (tgt := 161) hx hb dX6_signOf_1 (by decide) (by decide) rfl (by decide) ?_
      refine lv_bipush (v := 32) hx hb dX6_signOf_161 (by decide) ?_
      subst hQ
      exact W.iret (v := 32) hx hb hr (fun t1 ht hW => ⟨⟨32, (σ, I, J, ri, rj, rq), rfl, ⟨rfl, (rg_w (rg_k (32 : Int32) 32 rfl) (by decide))⟩, by rw [ht]; exact hP, va_K.moved hW.alike hK, hD⟩, hS.F ht⟩) hS.2.2 dX6_signOf_163
    by_cases k_51 : a0 = (60 : Int32)
    · have h_52 : rg a0 60 60 := rg_and (rg_full _) (rg_of_eq k_51 (rg_k (60 : Int32) 60 rfl)) (by decide)
      refine lv_tov 60 k_51 ?_
      refine lv_tableIn (tgt := 128) hx hb dX6_signOf_1 (by decide) (by decide) rfl (by decide) ?_
      refine lv_bipush (v := 19) hx hb dX6_signOf_128 (by decide) ?_
      subst hQ
      exact W.iret (v := 19) hx hb hr (fun t1 ht hW => ⟨⟨19, (σ, I, J, ri, rj, rq), rfl, ⟨rfl, (rg_w (rg_k (19 : Int32) 19 rfl) (by decide))⟩, by rw [ht]; exact hP, va_K.moved hW.alike hK, hD⟩, hS.F ht⟩) hS.2.2 dX6_signOf_130
    by_cases k_53 : a0 = (61 : Int32)
    · have h_54 : rg a0 61 61 := rg_and (rg_full _) (rg_of_eq k_53 (rg_k (61 : Int32) 61 rfl)) (by decide)
      refine lv_tov 61 k_53 ?_
      refine lv_tableIn (tgt := 134) hx hb dX6_signOf_1 (by decide) (by decide) rfl (by decide) ?_
      refine lv_bipush (v := 23) hx hb dX6_signOf_134 (by decide) ?_
      subst hQ
      exact W.iret (v := 23) hx hb hr (fun t1 ht hW => ⟨⟨23, (σ, I, J, ri, rj, rq), rfl, ⟨rfl, (rg_w (rg_k (23 : Int32) 23 rfl) (by decide))⟩, by rw [ht]; exact hP, va_K.moved hW.alike hK, hD⟩, hS.F ht⟩) hS.2.2 dX6_signOf_136
    by_cases k_55 : a0 = (62 : Int32)
    · have h_56 : rg a0 62 62 := rg_and (rg_full _) (rg_of_eq k_55 (rg_k (62 : Int32) 62 rfl)) (by decide)
      refine lv_tov 62 k_55 ?_
      refine lv_tableIn (tgt := 131) hx hb dX6_signOf_1 (by decide) (by decide) rfl (by decide) ?_
      refine lv_bipush (v := 21) hx hb dX6_signOf_131 (by decide) ?_
      subst hQ
      exact W.iret (v := 21) hx hb hr (fun t1 ht hW => ⟨⟨21, (σ, I, J, ri, rj, rq), rfl, ⟨rfl, (rg_w (rg_k (21 : Int32) 21 rfl) (by decide))⟩, by rw [ht]; exact hP, va_K.moved hW.alike hK, hD⟩, hS.F ht⟩) hS.2.2 dX6_signOf_133
    refine lv_tableOut (tgt := 164) hx hb dX6_signOf_1 (by have z_k_1 := sw_ne k_1 (n := 35) rfl; have z_k_3 := sw_ne k_3 (n := 36) rfl; have z_k_5 := sw_ne k_5 (n := 37) rfl; have z_k_7 := sw_ne k_7 (n := 38) rfl; have z_k_9 := sw_ne k_9 (n := 39) rfl; have z_k_11 := sw_ne k_11 (n := 40) rfl; have z_k_13 := sw_ne k_13 (n := 41) rfl; have z_k_15 := sw_ne k_15 (n := 42) rfl; have z_k_17 := sw_ne k_17 (n := 43) rfl; have z_k_19 := sw_ne k_19 (n := 44) rfl; have z_k_21 := sw_ne k_21 (n := 45) rfl; have z_k_23 := sw_ne k_23 (n := 46) rfl; have z_k_25 := sw_ne k_25 (n := 47) rfl; have z_k_27 := sw_ne k_27 (n := 48) rfl; have z_k_29 := sw_ne k_29 (n := 49) rfl; have z_k_31 := sw_ne k_31 (n := 50) rfl; have z_k_33 := sw_ne k_33 (n := 51) rfl; have z_k_35 := sw_ne k_35 (n := 52) rfl; have z_k_37 := sw_ne k_37 (n := 53) rfl; have z_k_39 := sw_ne k_39 (n := 54) rfl; have z_k_41 := sw_ne k_41 (n := 55) rfl; have z_k_43 := sw_ne k_43 (n := 56) rfl; have z_k_45 := sw_ne k_45 (n := 57) rfl; have z_k_47 := sw_ne k_47 (n := 58) rfl; have z_k_49 := sw_ne k_49 (n := 59) rfl; have z_k_51 := sw_ne k_51 (n := 60) rfl; have z_k_53 := sw_ne k_53 (n := 61) rfl; have z_k_55 := sw_ne k_55 (n := 62) rfl; omega) (by decide) ?_
    refine lv_bipush (v := 34) hx hb dX6_signOf_164 (by decide) ?_
    subst hQ
    exact W.iret (v := 34) hx hb hr (fun t1 ht hW => ⟨⟨34, (σ, I, J, ri, rj, rq), rfl, ⟨rfl, (rg_w (rg_k (34 : Int32) 34 rfl) (by decide))⟩, by rw [ht]; exact hP, va_K.moved hW.alike hK, hD⟩, hS.F ht⟩) hS.2.2 dX6_signOf_166
  exact go _ _ _ hP hD hS hl

set_option maxHeartbeats 4000000 in
set_option maxRecDepth 100000 in
theorem s_X11_copy_225_225 (l : Launch) (D : va_G) (t : pq_T) (σ : pq_S) (I : Nat → Nat → Int32) (J : Nat → Nat → Int64) (ri : Nat → Nat → Int32) (rj : Nat → Nat → Int64) (rq : Nat → Nat → Option Nat) (sz : Nat) (tg : Nat → Nat) (hSH : SH σ tg) (hG0 : GS tg σ I ri rq) (a0 : Nat) (a1 : Nat) (hL_a0 : a0 ∈ σ.1) (hK_a0 : σ.2.1 a0 = 13) (hN_a0 : σ.2.2.2 a0 = 200) (hT_a0 : tg a0 = 225) (hL_a1 : a1 ∈ σ.1) (hK_a1 : σ.2.1 a1 = 13) (hN_a1 : σ.2.2.2 a1 = 200) (hT_a1 : tg a1 = 225) : MetV l yX11_copy (wa yX11_copy cX11_copy 2 none) ({ frames := 1, cells := 0, slots := 0, locals := 60 }) [.ref a0, .ref a1] D t σ (I, J, ri, rj, rq) sz 0 0 (fun (u : pq_S × pq_M) => ∃ ri' : Nat → Nat → Int32, u = (σ, I, J, ri', rj, rq) ∧ GX [1225] tg σ I ri rj I ri' rj rq ∧ (∀ j, j < 200 → ri' a1 j = ri a0 j) ∧ (∀ q, q ≠ a1 → ri' q = ri q)) := by
  refine Met.ofW (cc := cX11_copy) (maxL := 2) (ret := none) (by decide) rfl ?_
  intro p e s m args below meth c s₁ B hml hv
  obtain ⟨rfl, hsz, hP, hK, hD0, hN⟩ := hv
  have hx := B.exec
  have hb := B.bytes
  have hr := B.returns
  have hts := atoms_spec (ws := (wa yX11_copy cX11_copy 2 none)) B.pre
  have hown : s.vm.findClass RX11 = some m.cls := findClass_of_methodNamed B.named
  have hlocks := B.notSynchronized
  subst hsz
  have hD : va_D (pq_B t σ (I, J, ri, rj, rq) s.heap.size) (pq_P t σ (I, J, ri, rj, rq)) := hD0.self
  generalize hAe : pq_B t σ (I, J, ri, rj, rq) s.heap.size = A at hD ⊢
  have hA : ∀ q : Nat, s.heap.size ≤ q → A q := fun q h => by rw [← hAe]; exact Or.inr h
  have hS : va_S A s.heap s.heap [] := va_S.rf
  have hG : GX [1225] tg σ I ri rj I ri rj rq := ⟨hG0, fun _ _ _ => rfl, fun _ _ _ _ _ => rfl, fun _ _ _ _ _ => rfl⟩
  have hl := lv_entry ([.ref a0, .ref a1]) (n := 2) (Nat.le_of_ble_eq_true rfl)
  rw [lg_entry_eq]
  generalize (lg_sl ([.ref a0, .ref a1]) ++ List.replicate (2 - (lg_sl ([.ref a0, .ref a1])).length) Slot.unset).toArray = ls at hl ⊢
  have hl : lv_has ls 2 [(0, .ref a0), (1, .ref a1)] := hl
  refine q_gen (fun Q hQ => ?_)
  have go : ∀ (H : Heap) (locs : List Loc) (ls : Array Slot), va_P D vwCl (pq_P t σ (I, J, ri, rj, rq)) H → va_D A (pq_P t σ (I, J, ri, rj, rq)) → va_S A s.heap H locs → lv_has ls 2 [(0, .ref a0), (1, .ref a1)] → W p l e ({ frames := 1, cells := 0, slots := 0, locals := 60 } : Room) s m (List.toArray ([.ref a0, .ref a1] : List Value)) below meth c H locs 0 0 Q (F0 m 0 ls []) := by
    intro H locs ls hP hD hS hl
    refine lv_aload_n hx hb dX11_copy_0 rfl (lv_at hl 0 rfl) ?_
    refine lv_iconst (v := 0) hx hb dX11_copy_1 (by decide) ?_
    refine lv_aload_n hx hb dX11_copy_2 rfl (lv_at hl 1 rfl) ?_
    refine lv_iconst (v := 0) hx hb dX11_copy_3 (by decide) ?_
    refine lv_aload_n hx hb dX11_copy_4 rfl (lv_at hl 0 rfl) ?_
    refine pn_i (v := 200) hx hb hK hP hL_a0 hK_a0 hN_a0 (by decide) dX11_copy_5 ?_
    refine lv_aload_n hx hb dX11_copy_6 rfl (lv_at hl 1 rfl) ?_
    refine pn_i (v := 200) hx hb hK hP hL_a1 hK_a1 hN_a1 (by decide) dX11_copy_7 ?_
    refine va_mmin hx hb (hml.trans hl.1.symm) hown (hts _ (tw_c tw_1103)) (hts _ (tw_c tw_467)) (hts _ (tw_c tw_276)) (hts _ (tw_c tw_468)) (Nat.le_of_ble_eq_true rfl) (Nat.le_of_ble_eq_true rfl) (Nat.zero_le _) (Nat.zero_le _) dX11_copy_8 ?_
    refine lv_topi (fun x_1 ex_1 => ?_)
    have h_2 : rg x_1 200 200 := rg_of_eq ex_1 (rg_min2 (rg_k (200 : Int32) 200 rfl) (rg_k (200 : Int32) 200 rfl) (by decide))
    refine pc_i hx hb (hml.trans hl.1.symm) hown (hts _ (tw_c tw_1104)) (hts _ (tw_c tw_1105)) (hts _ (tw_c tw_1106)) (hts _ (tw_c tw_1107)) hK hP hD hS hL_a0 hK_a0 hN_a0 hL_a1 hK_a1 hN_a1 (rg_pos (rg_k (0 : Int32) 0 rfl) (by decide)) (rg_pos h_2 (by decide)) (rg_cp (rg_k (0 : Int32) 0 rfl) h_2 (by decide)) (rg_cl h_2 (by decide)) (Nat.le_of_ble_eq_true rfl) (Nat.le_of_ble_eq_true rfl) dX11_copy_11 (fun r_3 H locs er_3 hP hD hS => ?_)
    have hG := GX.cR hG hSH hT_a0 rfl hT_a1 rfl er_3 (by decide)
    subst hQ
    exact W.vret hx hb hr (fun t1 ht hW => ⟨⟨(σ, I, J, r_3, rj, rq), rfl, ⟨r_3, rfl, hG, (cpy_eq er_3 h_2 rfl), (fun q hq => by rw [er_3, va_up_ne _ _ hq])⟩, by rw [ht]; exact hP, va_K.moved hW.alike hK, hD⟩, hS.F ht⟩) hS.2.2 dX11_copy_14
  exact go _ _ _ hP hD hS hl

set_option maxHeartbeats 4000000 in
set_option maxRecDepth 100000 in
theorem s_X11_copy_226_226 (l : Launch) (D : va_G) (t : pq_T) (σ : pq_S) (I : Nat → Nat → Int32) (J : Nat → Nat → Int64) (ri : Nat → Nat → Int32) (rj : Nat → Nat → Int64) (rq : Nat → Nat → Option Nat) (sz : Nat) (tg : Nat → Nat) (hSH : SH σ tg) (hG0 : GS tg σ I ri rq) (a0 : Nat) (a1 : Nat) (hL_a0 : a0 ∈ σ.1) (hK_a0 : σ.2.1 a0 = 13) (hN_a0 : σ.2.2.2 a0 = 200) (hT_a0 : tg a0 = 226) (hL_a1 : a1 ∈ σ.1) (hK_a1 : σ.2.1 a1 = 13) (hN_a1 : σ.2.2.2 a1 = 200) (hT_a1 : tg a1 = 226) : MetV l yX11_copy (wa yX11_copy cX11_copy 2 none) ({ frames := 1, cells := 0, slots := 0, locals := 60 }) [.ref a0, .ref a1] D t σ (I, J, ri, rj, rq) sz 0 0 (fun (u : pq_S × pq_M) => ∃ ri' : Nat → Nat → Int32, u = (σ, I, J, ri', rj, rq) ∧ GX [1226] tg σ I ri rj I ri' rj rq ∧ (∀ j, j < 200 → ri' a1 j = ri a0 j) ∧ (∀ q, q ≠ a1 → ri' q = ri q)) := by
  refine Met.ofW (cc := cX11_copy) (maxL := 2) (ret := none) (by decide) rfl ?_
  intro p e s m args below meth c s₁ B hml hv
  obtain ⟨rfl, hsz, hP, hK, hD0, hN⟩ := hv
  have hx := B.exec
  have hb := B.bytes
  have hr := B.returns
  have hts := atoms_spec (ws := (wa yX11_copy cX11_copy 2 none)) B.pre
  have hown : s.vm.findClass RX11 = some m.cls := findClass_of_methodNamed B.named
  have hlocks := B.notSynchronized
  subst hsz
  have hD : va_D (pq_B t σ (I, J, ri, rj, rq) s.heap.size) (pq_P t σ (I, J, ri, rj, rq)) := hD0.self
  generalize hAe : pq_B t σ (I, J, ri, rj, rq) s.heap.size = A at hD ⊢
  have hA : ∀ q : Nat, s.heap.size ≤ q → A q := fun q h => by rw [← hAe]; exact Or.inr h
  have hS : va_S A s.heap s.heap [] := va_S.rf
  have hG : GX [1226] tg σ I ri rj I ri rj rq := ⟨hG0, fun _ _ _ => rfl, fun _ _ _ _ _ => rfl, fun _ _ _ _ _ => rfl⟩
  have hl := lv_entry ([.ref a0, .ref a1]) (n := 2) (Nat.le_of_ble_eq_true rfl)
  rw [lg_entry_eq]
  generalize (lg_sl ([.ref a0, .ref a1]) ++ List.replicate (2 - (lg_sl ([.ref a0, .ref a1])).length) Slot.unset).toArray = ls at hl ⊢
  have hl : lv_has ls 2 [(0, .ref a0), (1, .ref a1)] := hl
  refine q_gen (fun Q hQ => ?_)
  have go : ∀ (H : Heap) (locs : List Loc) (ls : Array Slot), va_P D vwCl (pq_P t σ (I, J, ri, rj, rq)) H → va_D A (pq_P t σ (I, J, ri, rj, rq)) → va_S A s.heap H locs → lv_has ls 2 [(0, .ref a0), (1, .ref a1)] → W p l e ({ frames := 1, cells := 0, slots := 0, locals := 60 } : Room) s m (List.toArray ([.ref a0, .ref a1] : List Value)) below meth c H locs 0 0 Q (F0 m 0 ls []) := by
    intro H locs ls hP hD hS hl
    refine lv_aload_n hx hb dX11_copy_0 rfl (lv_at hl 0 rfl) ?_
    refine lv_iconst (v := 0) hx hb dX11_copy_1 (by decide) ?_
    refine lv_aload_n hx hb dX11_copy_2 rfl (lv_at hl 1 rfl) ?_
    refine lv_iconst (v := 0) hx hb dX11_copy_3 (by decide) ?_
    refine lv_aload_n hx hb dX11_copy_4 rfl (lv_at hl 0 rfl) ?_
    refine pn_i (v := 200) hx hb hK hP hL_a0 hK_a0 hN_a0 (by decide) dX11_copy_5 ?_
    refine lv_aload_n hx hb dX11_copy_6 rfl (lv_at hl 1 rfl) ?_
    refine pn_i (v := 200) hx hb hK hP hL_a1 hK_a1 hN_a1 (by decide) dX11_copy_7 ?_
    refine va_mmin hx hb (hml.trans hl.1.symm) hown (hts _ (tw_c tw_1103)) (hts _ (tw_c tw_467)) (hts _ (tw_c tw_276)) (hts _ (tw_c tw_468)) (Nat.le_of_ble_eq_true rfl) (Nat.le_of_ble_eq_true rfl) (Nat.zero_le _) (Nat.zero_le _) dX11_copy_8 ?_
    refine lv_topi (fun x_1 ex_1 => ?_)
    have h_2 : rg x_1 200 200 := rg_of_eq ex_1 (rg_min2 (rg_k (200 : Int32) 200 rfl) (rg_k (200 : Int32) 200 rfl) (by decide))
    refine pc_i hx hb (hml.trans hl.1.symm) hown (hts _ (tw_c tw_1104)) (hts _ (tw_c tw_1105)) (hts _ (tw_c tw_1106)) (hts _ (tw_c tw_1107)) hK hP hD hS hL_a0 hK_a0 hN_a0 hL_a1 hK_a1 hN_a1 (rg_pos (rg_k (0 : Int32) 0 rfl) (by decide)) (rg_pos h_2 (by decide)) (rg_cp (rg_k (0 : Int32) 0 rfl) h_2 (by decide)) (rg_cl h_2 (by decide)) (Nat.le_of_ble_eq_true rfl) (Nat.le_of_ble_eq_true rfl) dX11_copy_11 (fun r_3 H locs er_3 hP hD hS => ?_)
    have hG := GX.cR hG hSH hT_a0 rfl hT_a1 rfl er_3 (by decide)
    subst hQ
    exact W.vret hx hb hr (fun t1 ht hW => ⟨⟨(σ, I, J, r_3, rj, rq), rfl, ⟨r_3, rfl, hG, (cpy_eq er_3 h_2 rfl), (fun q hq => by rw [er_3, va_up_ne _ _ hq])⟩, by rw [ht]; exact hP, va_K.moved hW.alike hK, hD⟩, hS.F ht⟩) hS.2.2 dX11_copy_14
  exact go _ _ _ hP hD hS hl

set_option maxHeartbeats 4000000 in
set_option maxRecDepth 100000 in
theorem s_X11_copy_227_227 (l : Launch) (D : va_G) (t : pq_T) (σ : pq_S) (I : Nat → Nat → Int32) (J : Nat → Nat → Int64) (ri : Nat → Nat → Int32) (rj : Nat → Nat → Int64) (rq : Nat → Nat → Option Nat) (sz : Nat) (tg : Nat → Nat) (hSH : SH σ tg) (hG0 : GS tg σ I ri rq) (a0 : Nat) (a1 : Nat) (hL_a0 : a0 ∈ σ.1) (hK_a0 : σ.2.1 a0 = 13) (hN_a0 : σ.2.2.2 a0 = 200) (hT_a0 : tg a0 = 227) (hL_a1 : a1 ∈ σ.1) (hK_a1 : σ.2.1 a1 = 13) (hN_a1 : σ.2.2.2 a1 = 200) (hT_a1 : tg a1 = 227) : MetV l yX11_copy (wa yX11_copy cX11_copy 2 none) ({ frames := 1, cells := 0, slots := 0, locals := 60 }) [.ref a0, .ref a1] D t σ (I, J, ri, rj, rq) sz 0 0 (fun (u : pq_S × pq_M) => ∃ ri' : Nat → Nat → Int32, u = (σ, I, J, ri', rj, rq) ∧ GX [1227] tg σ I ri rj I ri' rj rq ∧ (∀ j, j < 200 → ri' a1 j = ri a0 j) ∧ (∀ q, q ≠ a1 → ri' q = ri q)) := by
  refine Met.ofW (cc := cX11_copy) (maxL := 2) (ret := none) (by decide) rfl ?_
  intro p e s m args below meth c s₁ B hml hv
  obtain ⟨rfl, hsz, hP, hK, hD0, hN⟩ := hv
  have hx := B.exec
  have hb := B.bytes
  have hr := B.returns
  have hts := atoms_spec (ws := (wa yX11_copy cX11_copy 2 none)) B.pre
  have hown : s.vm.findClass RX11 = some m.cls := findClass_of_methodNamed B.named
  have hlocks := B.notSynchronized
  subst hsz
  have hD : va_D (pq_B t σ (I, J, ri, rj, rq) s.heap.size) (pq_P t σ (I, J, ri, rj, rq)) := hD0.self
  generalize hAe : pq_B t σ (I, J, ri, rj, rq) s.heap.size = A at hD ⊢
  have hA : ∀ q : Nat, s.heap.size ≤ q → A q := fun q h => by rw [← hAe]; exact Or.inr h
  have hS : va_S A s.heap s.heap [] := va_S.rf
  have hG : GX [1227] tg σ I ri rj I ri rj rq := ⟨hG0, fun _ _ _ => rfl, fun _ _ _ _ _ => rfl, fun _ _ _ _ _ => rfl⟩
  have hl := lv_entry ([.ref a0, .ref a1]) (n := 2) (Nat.le_of_ble_eq_true rfl)
  rw [lg_entry_eq]
  generalize (lg_sl ([.ref a0, .ref a1]) ++ List.replicate (2 - (lg_sl ([.ref a0, .ref a1])).length) Slot.unset).toArray = ls at hl ⊢
  have hl : lv_has ls 2 [(0, .ref a0), (1, .ref a1)] := hl
  refine q_gen (fun Q hQ => ?_)
  have go : ∀ (H : Heap) (locs : List Loc) (ls : Array Slot), va_P D vwCl (pq_P t σ (I, J, ri, rj, rq)) H → va_D A (pq_P t σ (I, J, ri, rj, rq)) → va_S A s.heap H locs → lv_has ls 2 [(0, .ref a0), (1, .ref a1)] → W p l e ({ frames := 1, cells := 0, slots := 0, locals := 60 } : Room) s m (List.toArray ([.ref a0, .ref a1] : List Value)) below meth c H locs 0 0 Q (F0 m 0 ls []) := by
    intro H locs ls hP hD hS hl
    refine lv_aload_n hx hb dX11_copy_0 rfl (lv_at hl 0 rfl) ?_
    refine lv_iconst (v := 0) hx hb dX11_copy_1 (by decide) ?_
    refine lv_aload_n hx hb dX11_copy_2 rfl (lv_at hl 1 rfl) ?_
    refine lv_iconst (v := 0) hx hb dX11_copy_3 (by decide) ?_
    refine lv_aload_n hx hb dX11_copy_4 rfl (lv_at hl 0 rfl) ?_
    refine pn_i (v := 200) hx hb hK hP hL_a0 hK_a0 hN_a0 (by decide) dX11_copy_5 ?_
    refine lv_aload_n hx hb dX11_copy_6 rfl (lv_at hl 1 rfl) ?_
    refine pn_i (v := 200) hx hb hK hP hL_a1 hK_a1 hN_a1 (by decide) dX11_copy_7 ?_
    refine va_mmin hx hb (hml.trans hl.1.symm) hown (hts _ (tw_c tw_1103)) (hts _ (tw_c tw_467)) (hts _ (tw_c tw_276)) (hts _ (tw_c tw_468)) (Nat.le_of_ble_eq_true rfl) (Nat.le_of_ble_eq_true rfl) (Nat.zero_le _) (Nat.zero_le _) dX11_copy_8 ?_
    refine lv_topi (fun x_1 ex_1 => ?_)
    have h_2 : rg x_1 200 200 := rg_of_eq ex_1 (rg_min2 (rg_k (200 : Int32) 200 rfl) (rg_k (200 : Int32) 200 rfl) (by decide))
    refine pc_i hx hb (hml.trans hl.1.symm) hown (hts _ (tw_c tw_1104)) (hts _ (tw_c tw_1105)) (hts _ (tw_c tw_1106)) (hts _ (tw_c tw_1107)) hK hP hD hS hL_a0 hK_a0 hN_a0 hL_a1 hK_a1 hN_a1 (rg_pos (rg_k (0 : Int32) 0 rfl) (by decide)) (rg_pos h_2 (by decide)) (rg_cp (rg_k (0 : Int32) 0 rfl) h_2 (by decide)) (rg_cl h_2 (by decide)) (Nat.le_of_ble_eq_true rfl) (Nat.le_of_ble_eq_true rfl) dX11_copy_11 (fun r_3 H locs er_3 hP hD hS => ?_)
    have hG := GX.cR hG hSH hT_a0 rfl hT_a1 rfl er_3 (by decide)
    subst hQ
    exact W.vret hx hb hr (fun t1 ht hW => ⟨⟨(σ, I, J, r_3, rj, rq), rfl, ⟨r_3, rfl, hG, (cpy_eq er_3 h_2 rfl), (fun q hq => by rw [er_3, va_up_ne _ _ hq])⟩, by rw [ht]; exact hP, va_K.moved hW.alike hK, hD⟩, hS.F ht⟩) hS.2.2 dX11_copy_14
  exact go _ _ _ hP hD hS hl

set_option maxHeartbeats 4000000 in
set_option maxRecDepth 100000 in
theorem s_X11_copy_228_228 (l : Launch) (D : va_G) (t : pq_T) (σ : pq_S) (I : Nat → Nat → Int32) (J : Nat → Nat → Int64) (ri : Nat → Nat → Int32) (rj : Nat → Nat → Int64) (rq : Nat → Nat → Option Nat) (sz : Nat) (tg : Nat → Nat) (hSH : SH σ tg) (hG0 : GS tg σ I ri rq) (a0 : Nat) (a1 : Nat) (hL_a0 : a0 ∈ σ.1) (hK_a0 : σ.2.1 a0 = 13) (hN_a0 : σ.2.2.2 a0 = 200) (hT_a0 : tg a0 = 228) (hL_a1 : a1 ∈ σ.1) (hK_a1 : σ.2.1 a1 = 13) (hN_a1 : σ.2.2.2 a1 = 200) (hT_a1 : tg a1 = 228) : MetV l yX11_copy (wa yX11_copy cX11_copy 2 none) ({ frames := 1, cells := 0, slots := 0, locals := 60 }) [.ref a0, .ref a1] D t σ (I, J, ri, rj, rq) sz 0 0 (fun (u : pq_S × pq_M) => ∃ ri' : Nat → Nat → Int32, u = (σ, I, J, ri', rj, rq) ∧ GX [1228] tg σ I ri rj I ri' rj rq ∧ (∀ j, j < 200 → ri' a1 j = ri a0 j) ∧ (∀ q, q ≠ a1 → ri' q = ri q)) := by
  refine Met.ofW (cc := cX11_copy) (maxL := 2) (ret := none) (by decide) rfl ?_
  intro p e s m args below meth c s₁ B hml hv
  obtain ⟨rfl, hsz, hP, hK, hD0, hN⟩ := hv
  have hx := B.exec
  have hb := B.bytes
  have hr := B.returns
  have hts := atoms_spec (ws := (wa yX11_copy cX11_copy 2 none)) B.pre
  have hown : s.vm.findClass RX11 = some m.cls := findClass_of_methodNamed B.named
  have hlocks := B.notSynchronized
  subst hsz
  have hD : va_D (pq_B t σ (I, J, ri, rj, rq) s.heap.size) (pq_P t σ (I, J, ri, rj, rq)) := hD0.self
  generalize hAe : pq_B t σ (I, J, ri, rj, rq) s.heap.size = A at hD ⊢
  have hA : ∀ q : Nat, s.heap.size ≤ q → A q := fun q h => by rw [← hAe]; exact Or.inr h
  have hS : va_S A s.heap s.heap [] := va_S.rf
  have hG : GX [1228] tg σ I ri rj I ri rj rq := ⟨hG0, fun _ _ _ => rfl, fun _ _ _ _ _ => rfl, fun _ _ _ _ _ => rfl⟩
  have hl := lv_entry ([.ref a0, .ref a1]) (n := 2) (Nat.le_of_ble_eq_true rfl)
  rw [lg_entry_eq]
  generalize (lg_sl ([.ref a0, .ref a1]) ++ List.replicate (2 - (lg_sl ([.ref a0, .ref a1])).length) Slot.unset).toArray = ls at hl ⊢
  have hl : lv_has ls 2 [(0, .ref a0), (1, .ref a1)] := hl
  refine q_gen (fun Q hQ => ?_)
  have go : ∀ (H : Heap) (locs : List Loc) (ls : Array Slot), va_P D vwCl (pq_P t σ (I, J, ri, rj, rq)) H → va_D A (pq_P t σ (I, J, ri, rj, rq)) → va_S A s.heap H locs → lv_has ls 2 [(0, .ref a0), (1, .ref a1)] → W p l e ({ frames := 1, cells := 0, slots := 0, locals := 60 } : Room) s m (List.toArray ([.ref a0, .ref a1] : List Value)) below meth c H locs 0 0 Q (F0 m 0 ls []) := by
    intro H locs ls hP hD hS hl
    refine lv_aload_n hx hb dX11_copy_0 rfl (lv_at hl 0 rfl) ?_
    refine lv_iconst (v := 0) hx hb dX11_copy_1 (by decide) ?_
    refine lv_aload_n hx hb dX11_copy_2 rfl (lv_at hl 1 rfl) ?_
    refine lv_iconst (v := 0) hx hb dX11_copy_3 (by decide) ?_
    refine lv_aload_n hx hb dX11_copy_4 rfl (lv_at hl 0 rfl) ?_
    refine pn_i (v := 200) hx hb hK hP hL_a0 hK_a0 hN_a0 (by decide) dX11_copy_5 ?_
    refine lv_aload_n hx hb dX11_copy_6 rfl (lv_at hl 1 rfl) ?_
    refine pn_i (v := 200) hx hb hK hP hL_a1 hK_a1 hN_a1 (by decide) dX11_copy_7 ?_
    refine va_mmin hx hb (hml.trans hl.1.symm) hown (hts _ (tw_c tw_1103)) (hts _ (tw_c tw_467)) (hts _ (tw_c tw_276)) (hts _ (tw_c tw_468)) (Nat.le_of_ble_eq_true rfl) (Nat.le_of_ble_eq_true rfl) (Nat.zero_le _) (Nat.zero_le _) dX11_copy_8 ?_
    refine lv_topi (fun x_1 ex_1 => ?_)
    have h_2 : rg x_1 200 200 := rg_of_eq ex_1 (rg_min2 (rg_k (200 : Int32) 200 rfl) (rg_k (200 : Int32) 200 rfl) (by decide))
    refine pc_i hx hb (hml.trans hl.1.symm) hown (hts _ (tw_c tw_1104)) (hts _ (tw_c tw_1105)) (hts _ (tw_c tw_1106)) (hts _ (tw_c tw_1107)) hK hP hD hS hL_a0 hK_a0 hN_a0 hL_a1 hK_a1 hN_a1 (rg_pos (rg_k (0 : Int32) 0 rfl) (by decide)) (rg_pos h_2 (by decide)) (rg_cp (rg_k (0 : Int32) 0 rfl) h_2 (by decide)) (rg_cl h_2 (by decide)) (Nat.le_of_ble_eq_true rfl) (Nat.le_of_ble_eq_true rfl) dX11_copy_11 (fun r_3 H locs er_3 hP hD hS => ?_)
    have hG := GX.cR hG hSH hT_a0 rfl hT_a1 rfl er_3 (by decide)
    subst hQ
    exact W.vret hx hb hr (fun t1 ht hW => ⟨⟨(σ, I, J, r_3, rj, rq), rfl, ⟨r_3, rfl, hG, (cpy_eq er_3 h_2 rfl), (fun q hq => by rw [er_3, va_up_ne _ _ hq])⟩, by rw [ht]; exact hP, va_K.moved hW.alike hK, hD⟩, hS.F ht⟩) hS.2.2 dX11_copy_14
  exact go _ _ _ hP hD hS hl

set_option maxHeartbeats 4000000 in
set_option maxRecDepth 100000 in
theorem s_X11_copy_229_229 (l : Launch) (D : va_G) (t : pq_T) (σ : pq_S) (I : Nat → Nat → Int32) (J : Nat → Nat → Int64) (ri : Nat → Nat → Int32) (rj : Nat → Nat → Int64) (rq : Nat → Nat → Option Nat) (sz : Nat) (tg : Nat → Nat) (hSH : SH σ tg) (hG0 : GS tg σ I ri rq) (a0 : Nat) (a1 : Nat) (hL_a0 : a0 ∈ σ.1) (hK_a0 : σ.2.1 a0 = 13) (hN_a0 : σ.2.2.2 a0 = 12) (hT_a0 : tg a0 = 229) (hL_a1 : a1 ∈ σ.1) (hK_a1 : σ.2.1 a1 = 13) (hN_a1 : σ.2.2.2 a1 = 12) (hT_a1 : tg a1 = 229) : MetV l yX11_copy (wa yX11_copy cX11_copy 2 none) ({ frames := 1, cells := 0, slots := 0, locals := 60 }) [.ref a0, .ref a1] D t σ (I, J, ri, rj, rq) sz 0 0 (fun (u : pq_S × pq_M) => ∃ ri' : Nat → Nat → Int32, u = (σ, I, J, ri', rj, rq) ∧ GX [1229] tg σ I ri rj I ri' rj rq ∧ (∀ j, j < 12 → ri' a1 j = ri a0 j) ∧ (∀ q, q ≠ a1 → ri' q = ri q)) := by
  refine Met.ofW (cc := cX11_copy) (maxL := 2) (ret := none) (by decide) rfl ?_
  intro p e s m args below meth c s₁ B hml hv
  obtain ⟨rfl, hsz, hP, hK, hD0, hN⟩ := hv
  have hx := B.exec
  have hb := B.bytes
  have hr := B.returns
  have hts := atoms_spec (ws := (wa yX11_copy cX11_copy 2 none)) B.pre
  have hown : s.vm.findClass RX11 = some m.cls := findClass_of_methodNamed B.named
  have hlocks := B.notSynchronized
  subst hsz
  have hD : va_D (pq_B t σ (I, J, ri, rj, rq) s.heap.size) (pq_P t σ (I, J, ri, rj, rq)) := hD0.self
  generalize hAe : pq_B t σ (I, J, ri, rj, rq) s.heap.size = A at hD ⊢
  have hA : ∀ q : Nat, s.heap.size ≤ q → A q := fun q h => by rw [← hAe]; exact Or.inr h
  have hS : va_S A s.heap s.heap [] := va_S.rf
  have hG : GX [1229] tg σ I ri rj I ri rj rq := ⟨hG0, fun _ _ _ => rfl, fun _ _ _ _ _ => rfl, fun _ _ _ _ _ => rfl⟩
  have hl := lv_entry ([.ref a0, .ref a1]) (n := 2) (Nat.le_of_ble_eq_true rfl)
  rw [lg_entry_eq]
  generalize (lg_sl ([.ref a0, .ref a1]) ++ List.replicate (2 - (lg_sl ([.ref a0, .ref a1])).length) Slot.unset).toArray = ls at hl ⊢
  have hl : lv_has ls 2 [(0, .ref a0), (1, .ref a1)] := hl
  refine q_gen (fun Q hQ => ?_)
  have go : ∀ (H : Heap) (locs : List Loc) (ls : Array Slot), va_P D vwCl (pq_P t σ (I, J, ri, rj, rq)) H → va_D A (pq_P t σ (I, J, ri, rj, rq)) → va_S A s.heap H locs → lv_has ls 2 [(0, .ref a0), (1, .ref a1)] → W p l e ({ frames := 1, cells := 0, slots := 0, locals := 60 } : Room) s m (List.toArray ([.ref a0, .ref a1] : List Value)) below meth c H locs 0 0 Q (F0 m 0 ls []) := by
    intro H locs ls hP hD hS hl
    refine lv_aload_n hx hb dX11_copy_0 rfl (lv_at hl 0 rfl) ?_
    refine lv_iconst (v := 0) hx hb dX11_copy_1 (by decide) ?_
    refine lv_aload_n hx hb dX11_copy_2 rfl (lv_at hl 1 rfl) ?_
    refine lv_iconst (v := 0) hx hb dX11_copy_3 (by decide) ?_
    refine lv_aload_n hx hb dX11_copy_4 rfl (lv_at hl 0 rfl) ?_
    refine pn_i (v := 12) hx hb hK hP hL_a0 hK_a0 hN_a0 (by decide) dX11_copy_5 ?_
    refine lv_aload_n hx hb dX11_copy_6 rfl (lv_at hl 1 rfl) ?_
    refine pn_i (v := 12) hx hb hK hP hL_a1 hK_a1 hN_a1 (by decide) dX11_copy_7 ?_
    refine va_mmin hx hb (hml.trans hl.1.symm) hown (hts _ (tw_c tw_1103)) (hts _ (tw_c tw_467)) (hts _ (tw_c tw_276)) (hts _ (tw_c tw_468)) (Nat.le_of_ble_eq_true rfl) (Nat.le_of_ble_eq_true rfl) (Nat.zero_le _) (Nat.zero_le _) dX11_copy_8 ?_
    refine lv_topi (fun x_1 ex_1 => ?_)
    have h_2 : rg x_1 12 12 := rg_of_eq ex_1 (rg_min2 (rg_k (12 : Int32) 12 rfl) (rg_k (12 : Int32) 12 rfl) (by decide))
    refine pc_i hx hb (hml.trans hl.1.symm) hown (hts _ (tw_c tw_1104)) (hts _ (tw_c tw_1105)) (hts _ (tw_c tw_1106)) (hts _ (tw_c tw_1107)) hK hP hD hS hL_a0 hK_a0 hN_a0 hL_a1 hK_a1 hN_a1 (rg_pos (rg_k (0 : Int32) 0 rfl) (by decide)) (rg_pos h_2 (by decide)) (rg_cp (rg_k (0 : Int32) 0 rfl) h_2 (by decide)) (rg_cl h_2 (by decide)) (Nat.le_of_ble_eq_true rfl) (Nat.le_of_ble_eq_true rfl) dX11_copy_11 (fun r_3 H locs er_3 hP hD hS => ?_)
    have hG := GX.cR hG hSH hT_a0 rfl hT_a1 rfl er_3 (by decide)
    subst hQ
    exact W.vret hx hb hr (fun t1 ht hW => ⟨⟨(σ, I, J, r_3, rj, rq), rfl, ⟨r_3, rfl, hG, (cpy_eq er_3 h_2 rfl), (fun q hq => by rw [er_3, va_up_ne _ _ hq])⟩, by rw [ht]; exact hP, va_K.moved hW.alike hK, hD⟩, hS.F ht⟩) hS.2.2 dX11_copy_14
  exact go _ _ _ hP hD hS hl

set_option maxHeartbeats 4000000 in
set_option maxRecDepth 100000 in
theorem s_X11_copy_230_230 (l : Launch) (D : va_G) (t : pq_T) (σ : pq_S) (I : Nat → Nat → Int32) (J : Nat → Nat → Int64) (ri : Nat → Nat → Int32) (rj : Nat → Nat → Int64) (rq : Nat → Nat → Option Nat) (sz : Nat) (tg : Nat → Nat) (hSH : SH σ tg) (hG0 : GS tg σ I ri rq) (a0 : Nat) (a1 : Nat) (hL_a0 : a0 ∈ σ.1) (hK_a0 : σ.2.1 a0 = 13) (hN_a0 : σ.2.2.2 a0 = 12) (hT_a0 : tg a0 = 230) (hL_a1 : a1 ∈ σ.1) (hK_a1 : σ.2.1 a1 = 13) (hN_a1 : σ.2.2.2 a1 = 12) (hT_a1 : tg a1 = 230) : MetV l yX11_copy (wa yX11_copy cX11_copy 2 none) ({ frames := 1, cells := 0, slots := 0, locals := 60 }) [.ref a0, .ref a1] D t σ (I, J, ri, rj, rq) sz 0 0 (fun (u : pq_S × pq_M) => ∃ ri' : Nat → Nat → Int32, u = (σ, I, J, ri', rj, rq) ∧ GX [1230] tg σ I ri rj I ri' rj rq ∧ (∀ j, j < 12 → ri' a1 j = ri a0 j) ∧ (∀ q, q ≠ a1 → ri' q = ri q)) := by
  refine Met.ofW (cc := cX11_copy) (maxL := 2) (ret := none) (by decide) rfl ?_
  intro p e s m args below meth c s₁ B hml hv
  obtain ⟨rfl, hsz, hP, hK, hD0, hN⟩ := hv
  have hx := B.exec
  have hb := B.bytes
  have hr := B.returns
  have hts := atoms_spec (ws := (wa yX11_copy cX11_copy 2 none)) B.pre
  have hown : s.vm.findClass RX11 = some m.cls := findClass_of_methodNamed B.named
  have hlocks := B.notSynchronized
  subst hsz
  have hD : va_D (pq_B t σ (I, J, ri, rj, rq) s.heap.size) (pq_P t σ (I, J, ri, rj, rq)) := hD0.self
  generalize hAe : pq_B t σ (I, J, ri, rj, rq) s.heap.size = A at hD ⊢
  have hA : ∀ q : Nat, s.heap.size ≤ q → A q := fun q h => by rw [← hAe]; exact Or.inr h
  have hS : va_S A s.heap s.heap [] := va_S.rf
  have hG : GX [1230] tg σ I ri rj I ri rj rq := ⟨hG0, fun _ _ _ => rfl, fun _ _ _ _ _ => rfl, fun _ _ _ _ _ => rfl⟩
  have hl := lv_entry ([.ref a0, .ref a1]) (n := 2) (Nat.le_of_ble_eq_true rfl)
  rw [lg_entry_eq]
  generalize (lg_sl ([.ref a0, .ref a1]) ++ List.replicate (2 - (lg_sl ([.ref a0, .ref a1])).length) Slot.unset).toArray = ls at hl ⊢
  have hl : lv_has ls 2 [(0, .ref a0), (1, .ref a1)] := hl
  refine q_gen (fun Q hQ => ?_)
  have go : ∀ (H : Heap) (locs : List Loc) (ls : Array Slot), va_P D vwCl (pq_P t σ (I, J, ri, rj, rq)) H → va_D A (pq_P t σ (I, J, ri, rj, rq)) → va_S A s.heap H locs → lv_has ls 2 [(0, .ref a0), (1, .ref a1)] → W p l e ({ frames := 1, cells := 0, slots := 0, locals := 60 } : Room) s m (List.toArray ([.ref a0, .ref a1] : List Value)) below meth c H locs 0 0 Q (F0 m 0 ls []) := by
    intro H locs ls hP hD hS hl
    refine lv_aload_n hx hb dX11_copy_0 rfl (lv_at hl 0 rfl) ?_
    refine lv_iconst (v := 0) hx hb dX11_copy_1 (by decide) ?_
    refine lv_aload_n hx hb dX11_copy_2 rfl (lv_at hl 1 rfl) ?_
    refine lv_iconst (v := 0) hx hb dX11_copy_3 (by decide) ?_
    refine lv_aload_n hx hb dX11_copy_4 rfl (lv_at hl 0 rfl) ?_
    refine pn_i (v := 12) hx hb hK hP hL_a0 hK_a0 hN_a0 (by decide) dX11_copy_5 ?_
    refine lv_aload_n hx hb dX11_copy_6 rfl (lv_at hl 1 rfl) ?_
    refine pn_i (v := 12) hx hb hK hP hL_a1 hK_a1 hN_a1 (by decide) dX11_copy_7 ?_
    refine va_mmin hx hb (hml.trans hl.1.symm) hown (hts _ (tw_c tw_1103)) (hts _ (tw_c tw_467)) (hts _ (tw_c tw_276)) (hts _ (tw_c tw_468)) (Nat.le_of_ble_eq_true rfl) (Nat.le_of_ble_eq_true rfl) (Nat.zero_le _) (Nat.zero_le _) dX11_copy_8 ?_
    refine lv_topi (fun x_1 ex_1 => ?_)
    have h_2 : rg x_1 12 12 := rg_of_eq ex_1 (rg_min2 (rg_k (12 : Int32) 12 rfl) (rg_k (12 : Int32) 12 rfl) (by decide))
    refine pc_i hx hb (hml.trans hl.1.symm) hown (hts _ (tw_c tw_1104)) (hts _ (tw_c tw_1105)) (hts _ (tw_c tw_1106)) (hts _ (tw_c tw_1107)) hK hP hD hS hL_a0 hK_a0 hN_a0 hL_a1 hK_a1 hN_a1 (rg_pos (rg_k (0 : Int32) 0 rfl) (by decide)) (rg_pos h_2 (by decide)) (rg_cp (rg_k (0 : Int32) 0 rfl) h_2 (by decide)) (rg_cl h_2 (by decide)) (Nat.le_of_ble_eq_true rfl) (Nat.le_of_ble_eq_true rfl) dX11_copy_11 (fun r_3 H locs er_3 hP hD hS => ?_)
    have hG := GX.cR hG hSH hT_a0 rfl hT_a1 rfl er_3 (by decide)
    subst hQ
    exact W.vret hx hb hr (fun t1 ht hW => ⟨⟨(σ, I, J, r_3, rj, rq), rfl, ⟨r_3, rfl, hG, (cpy_eq er_3 h_2 rfl), (fun q hq => by rw [er_3, va_up_ne _ _ hq])⟩, by rw [ht]; exact hP, va_K.moved hW.alike hK, hD⟩, hS.F ht⟩) hS.2.2 dX11_copy_14
  exact go _ _ _ hP hD hS hl

set_option maxHeartbeats 4000000 in
set_option maxRecDepth 100000 in
theorem s_X11_copy_231_231 (l : Launch) (D : va_G) (t : pq_T) (σ : pq_S) (I : Nat → Nat → Int32) (J : Nat → Nat → Int64) (ri : Nat → Nat → Int32) (rj : Nat → Nat → Int64) (rq : Nat → Nat → Option Nat) (sz : Nat) (tg : Nat → Nat) (hSH : SH σ tg) (hG0 : GS tg σ I ri rq) (a0 : Nat) (a1 : Nat) (hL_a0 : a0 ∈ σ.1) (hK_a0 : σ.2.1 a0 = 13) (hN_a0 : σ.2.2.2 a0 = 12) (hT_a0 : tg a0 = 231) (hL_a1 : a1 ∈ σ.1) (hK_a1 : σ.2.1 a1 = 13) (hN_a1 : σ.2.2.2 a1 = 12) (hT_a1 : tg a1 = 231) : MetV l yX11_copy (wa yX11_copy cX11_copy 2 none) ({ frames := 1, cells := 0, slots := 0, locals := 60 }) [.ref a0, .ref a1] D t σ (I, J, ri, rj, rq) sz 0 0 (fun (u : pq_S × pq_M) => ∃ ri' : Nat → Nat → Int32, u = (σ, I, J, ri', rj, rq) ∧ GX [1231] tg σ I ri rj I ri' rj rq ∧ (∀ j, j < 12 → ri' a1 j = ri a0 j) ∧ (∀ q, q ≠ a1 → ri' q = ri q)) := by
  refine Met.ofW (cc := cX11_copy) (maxL := 2) (ret := none) (by decide) rfl ?_
  intro p e s m args below meth c s₁ B hml hv
  obtain ⟨rfl, hsz, hP, hK, hD0, hN⟩ := hv
  have hx := B.exec
  have hb := B.bytes
  have hr := B.returns
  have hts := atoms_spec (ws := (wa yX11_copy cX11_copy 2 none)) B.pre
  have hown : s.vm.findClass RX11 = some m.cls := findClass_of_methodNamed B.named
  have hlocks := B.notSynchronized
  subst hsz
  have hD : va_D (pq_B t σ (I, J, ri, rj, rq) s.heap.size) (pq_P t σ (I, J, ri, rj, rq)) := hD0.self
  generalize hAe : pq_B t σ (I, J, ri, rj, rq) s.heap.size = A at hD ⊢
  have hA : ∀ q : Nat, s.heap.size ≤ q → A q := fun q h => by rw [← hAe]; exact Or.inr h
  have hS : va_S A s.heap s.heap [] := va_S.rf
  have hG : GX [1231] tg σ I ri rj I ri rj rq := ⟨hG0, fun _ _ _ => rfl, fun _ _ _ _ _ => rfl, fun _ _ _ _ _ => rfl⟩
  have hl := lv_entry ([.ref a0, .ref a1]) (n := 2) (Nat.le_of_ble_eq_true rfl)
  rw [lg_entry_eq]
  generalize (lg_sl ([.ref a0, .ref a1]) ++ List.replicate (2 - (lg_sl ([.ref a0, .ref a1])).length) Slot.unset).toArray = ls at hl ⊢
  have hl : lv_has ls 2 [(0, .ref a0), (1, .ref a1)] := hl
  refine q_gen (fun Q hQ => ?_)
  have go : ∀ (H : Heap) (locs : List Loc) (ls : Array Slot), va_P D vwCl (pq_P t σ (I, J, ri, rj, rq)) H → va_D A (pq_P t σ (I, J, ri, rj, rq)) → va_S A s.heap H locs → lv_has ls 2 [(0, .ref a0), (1, .ref a1)] → W p l e ({ frames := 1, cells := 0, slots := 0, locals := 60 } : Room) s m (List.toArray ([.ref a0, .ref a1] : List Value)) below meth c H locs 0 0 Q (F0 m 0 ls []) := by
    intro H locs ls hP hD hS hl
    refine lv_aload_n hx hb dX11_copy_0 rfl (lv_at hl 0 rfl) ?_
    refine lv_iconst (v := 0) hx hb dX11_copy_1 (by decide) ?_
    refine lv_aload_n hx hb dX11_copy_2 rfl (lv_at hl 1 rfl) ?_
    refine lv_iconst (v := 0) hx hb dX11_copy_3 (by decide) ?_
    refine lv_aload_n hx hb dX11_copy_4 rfl (lv_at hl 0 rfl) ?_
    refine pn_i (v := 12) hx hb hK hP hL_a0 hK_a0 hN_a0 (by decide) dX11_copy_5 ?_
    refine lv_aload_n hx hb dX11_copy_6 rfl (lv_at hl 1 rfl) ?_
    refine pn_i (v := 12) hx hb hK hP hL_a1 hK_a1 hN_a1 (by decide) dX11_copy_7 ?_
    refine va_mmin hx hb (hml.trans hl.1.symm) hown (hts _ (tw_c tw_1103)) (hts _ (tw_c tw_467)) (hts _ (tw_c tw_276)) (hts _ (tw_c tw_468)) (Nat.le_of_ble_eq_true rfl) (Nat.le_of_ble_eq_true rfl) (Nat.zero_le _) (Nat.zero_le _) dX11_copy_8 ?_
    refine lv_topi (fun x_1 ex_1 => ?_)
    have h_2 : rg x_1 12 12 := rg_of_eq ex_1 (rg_min2 (rg_k (12 : Int32) 12 rfl) (rg_k (12 : Int32) 12 rfl) (by decide))
    refine pc_i hx hb (hml.trans hl.1.symm) hown (hts _ (tw_c tw_1104)) (hts _ (tw_c tw_1105)) (hts _ (tw_c tw_1106)) (hts _ (tw_c tw_1107)) hK hP hD hS hL_a0 hK_a0 hN_a0 hL_a1 hK_a1 hN_a1 (rg_pos (rg_k (0 : Int32) 0 rfl) (by decide)) (rg_pos h_2 (by decide)) (rg_cp (rg_k (0 : Int32) 0 rfl) h_2 (by decide)) (rg_cl h_2 (by decide)) (Nat.le_of_ble_eq_true rfl) (Nat.le_of_ble_eq_true rfl) dX11_copy_11 (fun r_3 H locs er_3 hP hD hS => ?_)
    have hG := GX.cR hG hSH hT_a0 rfl hT_a1 rfl er_3 (by decide)
    subst hQ
    exact W.vret hx hb hr (fun t1 ht hW => ⟨⟨(σ, I, J, r_3, rj, rq), rfl, ⟨r_3, rfl, hG, (cpy_eq er_3 h_2 rfl), (fun q hq => by rw [er_3, va_up_ne _ _ hq])⟩, by rw [ht]; exact hP, va_K.moved hW.alike hK, hD⟩, hS.F ht⟩) hS.2.2 dX11_copy_14
  exact go _ _ _ hP hD hS hl

set_option maxHeartbeats 4000000 in
set_option maxRecDepth 100000 in
theorem s_X11_copy_232_232 (l : Launch) (D : va_G) (t : pq_T) (σ : pq_S) (I : Nat → Nat → Int32) (J : Nat → Nat → Int64) (ri : Nat → Nat → Int32) (rj : Nat → Nat → Int64) (rq : Nat → Nat → Option Nat) (sz : Nat) (tg : Nat → Nat) (hSH : SH σ tg) (hG0 : GS tg σ I ri rq) (a0 : Nat) (a1 : Nat) (hL_a0 : a0 ∈ σ.1) (hK_a0 : σ.2.1 a0 = 13) (hN_a0 : σ.2.2.2 a0 = 12) (hT_a0 : tg a0 = 232) (hL_a1 : a1 ∈ σ.1) (hK_a1 : σ.2.1 a1 = 13) (hN_a1 : σ.2.2.2 a1 = 12) (hT_a1 : tg a1 = 232) : MetV l yX11_copy (wa yX11_copy cX11_copy 2 none) ({ frames := 1, cells := 0, slots := 0, locals := 60 }) [.ref a0, .ref a1] D t σ (I, J, ri, rj, rq) sz 0 0 (fun (u : pq_S × pq_M) => ∃ ri' : Nat → Nat → Int32, u = (σ, I, J, ri', rj, rq) ∧ GX [1232] tg σ I ri rj I ri' rj rq ∧ (∀ j, j < 12 → ri' a1 j = ri a0 j) ∧ (∀ q, q ≠ a1 → ri' q = ri q)) := by
  refine Met.ofW (cc := cX11_copy) (maxL := 2) (ret := none) (by decide) rfl ?_
  intro p e s m args below meth c s₁ B hml hv
  obtain ⟨rfl, hsz, hP, hK, hD0, hN⟩ := hv
  have hx := B.exec
  have hb := B.bytes
  have hr := B.returns
  have hts := atoms_spec (ws := (wa yX11_copy cX11_copy 2 none)) B.pre
  have hown : s.vm.findClass RX11 = some m.cls := findClass_of_methodNamed B.named
  have hlocks := B.notSynchronized
  subst hsz
  have hD : va_D (pq_B t σ (I, J, ri, rj, rq) s.heap.size) (pq_P t σ (I, J, ri, rj, rq)) := hD0.self
  generalize hAe : pq_B t σ (I, J, ri, rj, rq) s.heap.size = A at hD ⊢
  have hA : ∀ q : Nat, s.heap.size ≤ q → A q := fun q h => by rw [← hAe]; exact Or.inr h
  have hS : va_S A s.heap s.heap [] := va_S.rf
  have hG : GX [1232] tg σ I ri rj I ri rj rq := ⟨hG0, fun _ _ _ => rfl, fun _ _ _ _ _ => rfl, fun _ _ _ _ _ => rfl⟩
  have hl := lv_entry ([.ref a0, .ref a1]) (n := 2) (Nat.le_of_ble_eq_true rfl)
  rw [lg_entry_eq]
  generalize (lg_sl ([.ref a0, .ref a1]) ++ List.replicate (2 - (lg_sl ([.ref a0, .ref a1])).length) Slot.unset).toArray = ls at hl ⊢
  have hl : lv_has ls 2 [(0, .ref a0), (1, .ref a1)] := hl
  refine q_gen (fun Q hQ => ?_)
  have go : ∀ (H : Heap) (locs : List Loc) (ls : Array Slot), va_P D vwCl (pq_P t σ (I, J, ri, rj, rq)) H → va_D A (pq_P t σ (I, J, ri, rj, rq)) → va_S A s.heap H locs → lv_has ls 2 [(0, .ref a0), (1, .ref a1)] → W p l e ({ frames := 1, cells := 0, slots := 0, locals := 60 } : Room) s m (List.toArray ([.ref a0, .ref a1] : List Value)) below meth c H locs 0 0 Q (F0 m 0 ls []) := by
    intro H locs ls hP hD hS hl
    refine lv_aload_n hx hb dX11_copy_0 rfl (lv_at hl 0 rfl) ?_
    refine lv_iconst (v := 0) hx hb dX11_copy_1 (by decide) ?_
    refine lv_aload_n hx hb dX11_copy_2 rfl (lv_at hl 1 rfl) ?_
    refine lv_iconst (v := 0) hx hb dX11_copy_3 (by decide) ?_
    refine lv_aload_n hx hb dX11_copy_4 rfl (lv_at hl 0 rfl) ?_
    refine pn_i (v := 12) hx hb hK hP hL_a0 hK_a0 hN_a0 (by decide) dX11_copy_5 ?_
    refine lv_aload_n hx hb dX11_copy_6 rfl (lv_at hl 1 rfl) ?_
    refine pn_i (v := 12) hx hb hK hP hL_a1 hK_a1 hN_a1 (by decide) dX11_copy_7 ?_
    refine va_mmin hx hb (hml.trans hl.1.symm) hown (hts _ (tw_c tw_1103)) (hts _ (tw_c tw_467)) (hts _ (tw_c tw_276)) (hts _ (tw_c tw_468)) (Nat.le_of_ble_eq_true rfl) (Nat.le_of_ble_eq_true rfl) (Nat.zero_le _) (Nat.zero_le _) dX11_copy_8 ?_
    refine lv_topi (fun x_1 ex_1 => ?_)
    have h_2 : rg x_1 12 12 := rg_of_eq ex_1 (rg_min2 (rg_k (12 : Int32) 12 rfl) (rg_k (12 : Int32) 12 rfl) (by decide))
    refine pc_i hx hb (hml.trans hl.1.symm) hown (hts _ (tw_c tw_1104)) (hts _ (tw_c tw_1105)) (hts _ (tw_c tw_1106)) (hts _ (tw_c tw_1107)) hK hP hD hS hL_a0 hK_a0 hN_a0 hL_a1 hK_a1 hN_a1 (rg_pos (rg_k (0 : Int32) 0 rfl) (by decide)) (rg_pos h_2 (by decide)) (rg_cp (rg_k (0 : Int32) 0 rfl) h_2 (by decide)) (rg_cl h_2 (by decide)) (Nat.le_of_ble_eq_true rfl) (Nat.le_of_ble_eq_true rfl) dX11_copy_11 (fun r_3 H locs er_3 hP hD hS => ?_)
    have hG := GX.cR hG hSH hT_a0 rfl hT_a1 rfl er_3 (by decide)
    subst hQ
    exact W.vret hx hb hr (fun t1 ht hW => ⟨⟨(σ, I, J, r_3, rj, rq), rfl, ⟨r_3, rfl, hG, (cpy_eq er_3 h_2 rfl), (fun q hq => by rw [er_3, va_up_ne _ _ hq])⟩, by rw [ht]; exact hP, va_K.moved hW.alike hK, hD⟩, hS.F ht⟩) hS.2.2 dX11_copy_14
  exact go _ _ _ hP hD hS hl

set_option maxHeartbeats 4000000 in
set_option maxRecDepth 100000 in
theorem s_X11_copy_233_233 (l : Launch) (D : va_G) (t : pq_T) (σ : pq_S) (I : Nat → Nat → Int32) (J : Nat → Nat → Int64) (ri : Nat → Nat → Int32) (rj : Nat → Nat → Int64) (rq : Nat → Nat → Option Nat) (sz : Nat) (tg : Nat → Nat) (hSH : SH σ tg) (hG0 : GS tg σ I ri rq) (a0 : Nat) (a1 : Nat) (hL_a0 : a0 ∈ σ.1) (hK_a0 : σ.2.1 a0 = 13) (hN_a0 : σ.2.2.2 a0 = 12) (hT_a0 : tg a0 = 233) (hL_a1 : a1 ∈ σ.1) (hK_a1 : σ.2.1 a1 = 13) (hN_a1 : σ.2.2.2 a1 = 12) (hT_a1 : tg a1 = 233) : MetV l yX11_copy (wa yX11_copy cX11_copy 2 none) ({ frames := 1, cells := 0, slots := 0, locals := 60 }) [.ref a0, .ref a1] D t σ (I, J, ri, rj, rq) sz 0 0 (fun (u : pq_S × pq_M) => ∃ ri' : Nat → Nat → Int32, u = (σ, I, J, ri', rj, rq) ∧ GX [1233] tg σ I ri rj I ri' rj rq ∧ (∀ j, j < 12 → ri' a1 j = ri a0 j) ∧ (∀ q, q ≠ a1 → ri' q = ri q)) := by
  refine Met.ofW (cc := cX11_copy) (maxL := 2) (ret := none) (by decide) rfl ?_
  intro p e s m args below meth c s₁ B hml hv
  obtain ⟨rfl, hsz, hP, hK, hD0, hN⟩ := hv
  have hx := B.exec
  have hb := B.bytes
  have hr := B.returns
  have hts := atoms_spec (ws := (wa yX11_copy cX11_copy 2 none)) B.pre
  have hown : s.vm.findClass RX11 = some m.cls := findClass_of_methodNamed B.named
  have hlocks := B.notSynchronized
  subst hsz
  have hD : va_D (pq_B t σ (I, J, ri, rj, rq) s.heap.size) (pq_P t σ (I, J, ri, rj, rq)) := hD0.self
  generalize hAe : pq_B t σ (I, J, ri, rj, rq) s.heap.size = A at hD ⊢
  have hA : ∀ q : Nat, s.heap.size ≤ q → A q := fun q h => by rw [← hAe]; exact Or.inr h
  have hS : va_S A s.heap s.heap [] := va_S.rf
  have hG : GX [1233] tg σ I ri rj I ri rj rq := ⟨hG0, fun _ _ _ => rfl, fun _ _ _ _ _ => rfl, fun _ _ _ _ _ => rfl⟩
  have hl := lv_entry ([.ref a0, .ref a1]) (n := 2) (Nat.le_of_ble_eq_true rfl)
  rw [lg_entry_eq]
  generalize (lg_sl ([.ref a0, .ref a1]) ++ List.replicate (2 - (lg_sl ([.ref a0, .ref a1])).length) Slot.unset).toArray = ls at hl ⊢
  have hl : lv_has ls 2 [(0, .ref a0), (1, .ref a1)] := hl
  refine q_gen (fun Q hQ => ?_)
  have go : ∀ (H : Heap) (locs : List Loc) (ls : Array Slot), va_P D vwCl (pq_P t σ (I, J, ri, rj, rq)) H → va_D A (pq_P t σ (I, J, ri, rj, rq)) → va_S A s.heap H locs → lv_has ls 2 [(0, .ref a0), (1, .ref a1)] → W p l e ({ frames := 1, cells := 0, slots := 0, locals := 60 } : Room) s m (List.toArray ([.ref a0, .ref a1] : List Value)) below meth c H locs 0 0 Q (F0 m 0 ls []) := by
    intro H locs ls hP hD hS hl
    refine lv_aload_n hx hb dX11_copy_0 rfl (lv_at hl 0 rfl) ?_
    refine lv_iconst (v := 0) hx hb dX11_copy_1 (by decide) ?_
    refine lv_aload_n hx hb dX11_copy_2 rfl (lv_at hl 1 rfl) ?_
    refine lv_iconst (v := 0) hx hb dX11_copy_3 (by decide) ?_
    refine lv_aload_n hx hb dX11_copy_4 rfl (lv_at hl 0 rfl) ?_
    refine pn_i (v := 12) hx hb hK hP hL_a0 hK_a0 hN_a0 (by decide) dX11_copy_5 ?_
    refine lv_aload_n hx hb dX11_copy_6 rfl (lv_at hl 1 rfl) ?_
    refine pn_i (v := 12) hx hb hK hP hL_a1 hK_a1 hN_a1 (by decide) dX11_copy_7 ?_
    refine va_mmin hx hb (hml.trans hl.1.symm) hown (hts _ (tw_c tw_1103)) (hts _ (tw_c tw_467)) (hts _ (tw_c tw_276)) (hts _ (tw_c tw_468)) (Nat.le_of_ble_eq_true rfl) (Nat.le_of_ble_eq_true rfl) (Nat.zero_le _) (Nat.zero_le _) dX11_copy_8 ?_
    refine lv_topi (fun x_1 ex_1 => ?_)
    have h_2 : rg x_1 12 12 := rg_of_eq ex_1 (rg_min2 (rg_k (12 : Int32) 12 rfl) (rg_k (12 : Int32) 12 rfl) (by decide))
    refine pc_i hx hb (hml.trans hl.1.symm) hown (hts _ (tw_c tw_1104)) (hts _ (tw_c tw_1105)) (hts _ (tw_c tw_1106)) (hts _ (tw_c tw_1107)) hK hP hD hS hL_a0 hK_a0 hN_a0 hL_a1 hK_a1 hN_a1 (rg_pos (rg_k (0 : Int32) 0 rfl) (by decide)) (rg_pos h_2 (by decide)) (rg_cp (rg_k (0 : Int32) 0 rfl) h_2 (by decide)) (rg_cl h_2 (by decide)) (Nat.le_of_ble_eq_true rfl) (Nat.le_of_ble_eq_true rfl) dX11_copy_11 (fun r_3 H locs er_3 hP hD hS => ?_)
    have hG := GX.cR hG hSH hT_a0 rfl hT_a1 rfl er_3 (by decide)
    subst hQ
    exact W.vret hx hb hr (fun t1 ht hW => ⟨⟨(σ, I, J, r_3, rj, rq), rfl, ⟨r_3, rfl, hG, (cpy_eq er_3 h_2 rfl), (fun q hq => by rw [er_3, va_up_ne _ _ hq])⟩, by rw [ht]; exact hP, va_K.moved hW.alike hK, hD⟩, hS.F ht⟩) hS.2.2 dX11_copy_14
  exact go _ _ _ hP hD hS hl
