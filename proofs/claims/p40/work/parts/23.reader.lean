theorem dX4_refuse_0 : decode cX4_refuse 0 = .ok (.aload_n 0, 1) := oc_42 (by decide +kernel)
theorem tw_155 : Cond.fieldLink RX4 18 "RingsUnder$Reader" "fault" "I" ∈ wsL_law := sg_7 _ (List.mem_of_getElem? (i := 11) rfl)
theorem dX4_refuse_1 : decode cX4_refuse 1 = .ok (.getfield 18, 3) := oc_180 (a := 0) (b := 18) (by decide +kernel)
theorem dX4_refuse_4 : decode cX4_refuse 4 = .ok (.ifCond .ne 19, 3) := oc_154 (a := 0) (b := 19) (by decide +kernel)
theorem dX4_refuse_23 : decode cX4_refuse 23 = .ok (.return_, 1) := oc_177 (by decide +kernel)
theorem dX4_refuse_7 : decode cX4_refuse 7 = .ok (.aload_n 0, 1) := oc_42 (by decide +kernel)
theorem dX4_refuse_8 : decode cX4_refuse 8 = .ok (.iload_n 1, 1) := oc_27 (by decide +kernel)
theorem dX4_refuse_9 : decode cX4_refuse 9 = .ok (.putfield 18, 3) := oc_181 (a := 0) (b := 18) (by decide +kernel)
theorem dX4_refuse_12 : decode cX4_refuse 12 = .ok (.aload_n 0, 1) := oc_42 (by decide +kernel)
theorem dX4_refuse_13 : decode cX4_refuse 13 = .ok (.aload_n 0, 1) := oc_42 (by decide +kernel)
theorem tw_154 : Cond.fieldLink RX4 12 "RingsUnder$Reader" "scanner" "LRingsUnder$Scanner;" ∈ wsL_law := sg_7 _ (List.mem_of_getElem? (i := 10) rfl)
theorem dX4_refuse_14 : decode cX4_refuse 14 = .ok (.getfield 12, 3) := oc_180 (a := 0) (b := 12) (by decide +kernel)
theorem tw_752 : Cond.fieldLink RX4 51 "RingsUnder$Scanner" "start" "I" ∈ wsL_law := sg_32 _ (List.mem_of_getElem? (i := 8) rfl)
theorem dX4_refuse_17 : decode cX4_refuse 17 = .ok (.getfield 51, 3) := oc_180 (a := 0) (b := 51) (by decide +kernel)
theorem tw_156 : Cond.fieldLink RX4 22 "RingsUnder$Reader" "place" "I" ∈ wsL_law := sg_7 _ (List.mem_of_getElem? (i := 12) rfl)
theorem dX4_refuse_20 : decode cX4_refuse 20 = .ok (.putfield 22, 3) := oc_181 (a := 0) (b := 22) (by decide +kernel)
theorem dX4_emit_0 : decode cX4_emit 0 = .ok (.aload_n 0, 1) := oc_42 (by decide +kernel)
theorem tw_656 : Cond.fieldLink RX4 36 "RingsUnder$Reader" "codes" "I" ∈ wsL_law := sg_28 _ (List.mem_of_getElem? (i := 8) rfl)
theorem dX4_emit_1 : decode cX4_emit 1 = .ok (.getfield 36, 3) := oc_180 (a := 0) (b := 36) (by decide +kernel)
theorem dX4_emit_4 : decode cX4_emit 4 = .ok (.sipush 300, 3) := oc_17 (a := 1) (b := 44) (by decide +kernel)
theorem dX4_emit_7 : decode cX4_emit 7 = .ok (.if_icmp .ge 26, 3) := oc_162 (a := 0) (b := 26) (by decide +kernel)
theorem dX4_emit_33 : decode cX4_emit 33 = .ok (.return_, 1) := oc_177 (by decide +kernel)
theorem dX4_emit_10 : decode cX4_emit 10 = .ok (.aload_n 0, 1) := oc_42 (by decide +kernel)
theorem tw_160 : Cond.fieldLink RX4 28 "RingsUnder$Reader" "draft" "LRingsUnder$Text;" ∈ wsL_law := sg_7 _ (List.mem_of_getElem? (i := 16) rfl)
theorem dX4_emit_11 : decode cX4_emit 11 = .ok (.getfield 28, 3) := oc_180 (a := 0) (b := 28) (by decide +kernel)
theorem tw_773 : Cond.fieldLink RX4 54 "RingsUnder$Text" "code" "[I" ∈ wsL_law := sg_33 _ (List.mem_of_getElem? (i := 5) rfl)
theorem dX4_emit_14 : decode cX4_emit 14 = .ok (.getfield 54, 3) := oc_180 (a := 0) (b := 54) (by decide +kernel)
theorem dX4_emit_17 : decode cX4_emit 17 = .ok (.aload_n 0, 1) := oc_42 (by decide +kernel)
theorem dX4_emit_18 : decode cX4_emit 18 = .ok (.getfield 36, 3) := oc_180 (a := 0) (b := 36) (by decide +kernel)
theorem dX4_emit_21 : decode cX4_emit 21 = .ok (.iload_n 1, 1) := oc_27 (by decide +kernel)
theorem dX4_emit_22 : decode cX4_emit 22 = .ok (.iastore, 1) := oc_79 (by decide +kernel)
theorem dX4_emit_23 : decode cX4_emit 23 = .ok (.aload_n 0, 1) := oc_42 (by decide +kernel)
theorem dX4_emit_24 : decode cX4_emit 24 = .ok (.dup, 1) := oc_89 (by decide +kernel)
theorem dX4_emit_25 : decode cX4_emit 25 = .ok (.getfield 36, 3) := oc_180 (a := 0) (b := 36) (by decide +kernel)
theorem dX4_emit_28 : decode cX4_emit 28 = .ok (.iconst 1, 1) := oc_4 (by decide +kernel)
theorem dX4_emit_29 : decode cX4_emit 29 = .ok (.iadd, 1) := oc_96 (by decide +kernel)
theorem dX4_emit_30 : decode cX4_emit 30 = .ok (.putfield 36, 3) := oc_181 (a := 0) (b := 36) (by decide +kernel)
theorem dX4_isName_0 : decode cX4_isName 0 = .ok (.iload_n 0, 1) := oc_26 (by decide +kernel)
theorem dX4_isName_1 : decode cX4_isName 1 = .ok (.bipush 12, 2) := oc_16 (a := 12) (by decide +kernel)
theorem dX4_isName_3 : decode cX4_isName 3 = .ok (.if_icmp .lt 13, 3) := oc_161 (a := 0) (b := 13) (by decide +kernel)
theorem dX4_isName_16 : decode cX4_isName 16 = .ok (.iconst 0, 1) := oc_3 (by decide +kernel)
theorem dX4_isName_17 : decode cX4_isName 17 = .ok (.ireturn, 1) := oc_172 (by decide +kernel)
theorem dX4_isName_6 : decode cX4_isName 6 = .ok (.iload_n 0, 1) := oc_26 (by decide +kernel)
theorem dX4_isName_7 : decode cX4_isName 7 = .ok (.bipush 17, 2) := oc_16 (a := 17) (by decide +kernel)
theorem dX4_isName_9 : decode cX4_isName 9 = .ok (.if_icmp .gt 7, 3) := oc_163 (a := 0) (b := 7) (by decide +kernel)
theorem dX4_isName_12 : decode cX4_isName 12 = .ok (.iconst 1, 1) := oc_4 (by decide +kernel)
theorem dX4_isName_13 : decode cX4_isName 13 = .ok (.goto 4, 3) := oc_167 (a := 0) (b := 4) (by decide +kernel)
theorem dX4_await_0 : decode cX4_await 0 = .ok (.aload_n 0, 1) := oc_42 (by decide +kernel)
theorem tw_758 : Cond.fieldLink RX4 102 "RingsUnder$Reader" "waits" "I" ∈ wsL_law := sg_32 _ (List.mem_of_getElem? (i := 14) rfl)
theorem dX4_await_1 : decode cX4_await 1 = .ok (.getfield 102, 3) := oc_180 (a := 0) (b := 102) (by decide +kernel)
theorem dX4_await_4 : decode cX4_await 4 = .ok (.aload_n 0, 1) := oc_42 (by decide +kernel)
theorem tw_161 : Cond.fieldLink RX4 32 "RingsUnder$Reader" "waiting" "[I" ∈ wsL_law := sg_7 _ (List.mem_of_getElem? (i := 17) rfl)
theorem dX4_await_5 : decode cX4_await 5 = .ok (.getfield 32, 3) := oc_180 (a := 0) (b := 32) (by decide +kernel)
theorem dX4_await_8 : decode cX4_await 8 = .ok (.arraylength, 1) := oc_190 (by decide +kernel)
theorem dX4_await_9 : decode cX4_await 9 = .ok (.if_icmp .ge 23, 3) := oc_162 (a := 0) (b := 23) (by decide +kernel)
theorem dX4_await_32 : decode cX4_await 32 = .ok (.return_, 1) := oc_177 (by decide +kernel)
theorem dX4_await_12 : decode cX4_await 12 = .ok (.aload_n 0, 1) := oc_42 (by decide +kernel)
theorem dX4_await_13 : decode cX4_await 13 = .ok (.getfield 32, 3) := oc_180 (a := 0) (b := 32) (by decide +kernel)
theorem dX4_await_16 : decode cX4_await 16 = .ok (.aload_n 0, 1) := oc_42 (by decide +kernel)
theorem dX4_await_17 : decode cX4_await 17 = .ok (.getfield 102, 3) := oc_180 (a := 0) (b := 102) (by decide +kernel)
theorem dX4_await_20 : decode cX4_await 20 = .ok (.iload_n 1, 1) := oc_27 (by decide +kernel)
theorem dX4_await_21 : decode cX4_await 21 = .ok (.iastore, 1) := oc_79 (by decide +kernel)
theorem dX4_await_22 : decode cX4_await 22 = .ok (.aload_n 0, 1) := oc_42 (by decide +kernel)
theorem dX4_await_23 : decode cX4_await 23 = .ok (.dup, 1) := oc_89 (by decide +kernel)
theorem dX4_await_24 : decode cX4_await 24 = .ok (.getfield 102, 3) := oc_180 (a := 0) (b := 102) (by decide +kernel)
theorem dX4_await_27 : decode cX4_await 27 = .ok (.iconst 1, 1) := oc_4 (by decide +kernel)
theorem dX4_await_28 : decode cX4_await 28 = .ok (.iadd, 1) := oc_96 (by decide +kernel)
theorem dX4_await_29 : decode cX4_await 29 = .ok (.putfield 102, 3) := oc_181 (a := 0) (b := 102) (by decide +kernel)
theorem dX4_openUp_0 : decode cX4_openUp 0 = .ok (.aload_n 0, 1) := oc_42 (by decide +kernel)
theorem tw_759 : Cond.fieldLink RX4 105 "RingsUnder$Reader" "open" "I" ∈ wsL_law := sg_32 _ (List.mem_of_getElem? (i := 15) rfl)
theorem dX4_openUp_1 : decode cX4_openUp 1 = .ok (.getfield 105, 3) := oc_180 (a := 0) (b := 105) (by decide +kernel)
theorem dX4_openUp_4 : decode cX4_openUp 4 = .ok (.bipush 8, 2) := oc_16 (a := 8) (by decide +kernel)
theorem dX4_openUp_6 : decode cX4_openUp 6 = .ok (.if_icmp .lt 8, 3) := oc_161 (a := 0) (b := 8) (by decide +kernel)
theorem dX4_openUp_14 : decode cX4_openUp 14 = .ok (.aload_n 0, 1) := oc_42 (by decide +kernel)
theorem dX4_openUp_15 : decode cX4_openUp 15 = .ok (.dup, 1) := oc_89 (by decide +kernel)
theorem dX4_openUp_16 : decode cX4_openUp 16 = .ok (.getfield 105, 3) := oc_180 (a := 0) (b := 105) (by decide +kernel)
theorem dX4_openUp_19 : decode cX4_openUp 19 = .ok (.iconst 1, 1) := oc_4 (by decide +kernel)
theorem dX4_openUp_20 : decode cX4_openUp 20 = .ok (.iadd, 1) := oc_96 (by decide +kernel)
theorem dX4_openUp_21 : decode cX4_openUp 21 = .ok (.putfield 105, 3) := oc_181 (a := 0) (b := 105) (by decide +kernel)
theorem dX4_openUp_24 : decode cX4_openUp 24 = .ok (.iload_n 1, 1) := oc_27 (by decide +kernel)
theorem dX4_openUp_25 : decode cX4_openUp 25 = .ok (.bipush 29, 2) := oc_16 (a := 29) (by decide +kernel)
theorem dX4_openUp_27 : decode cX4_openUp 27 = .ok (.if_icmp .ne 13, 3) := oc_160 (a := 0) (b := 13) (by decide +kernel)
theorem dX4_openUp_40 : decode cX4_openUp 40 = .ok (.aload_n 0, 1) := oc_42 (by decide +kernel)
theorem dX4_openUp_41 : decode cX4_openUp 41 = .ok (.iload_n 1, 1) := oc_27 (by decide +kernel)
theorem dX4_openUp_42 : decode cX4_openUp 42 = .ok (.bipush 11, 2) := oc_16 (a := 11) (by decide +kernel)
theorem dX4_openUp_44 : decode cX4_openUp 44 = .ok (.if_icmp .ne 7, 3) := oc_160 (a := 0) (b := 7) (by decide +kernel)
theorem dX4_openUp_51 : decode cX4_openUp 51 = .ok (.iconst 0, 1) := oc_3 (by decide +kernel)
theorem tw_761 : Cond.fieldLink RX4 111 "RingsUnder$Reader" "atAsk" "Z" ∈ wsL_law := sg_32 _ (List.mem_of_getElem? (i := 17) rfl)
theorem dX4_openUp_52 : decode cX4_openUp 52 = .ok (.putfield 111, 3) := oc_181 (a := 0) (b := 111) (by decide +kernel)
theorem dX4_openUp_55 : decode cX4_openUp 55 = .ok (.aload_n 0, 1) := oc_42 (by decide +kernel)
theorem dX4_openUp_56 : decode cX4_openUp 56 = .ok (.iload_n 1, 1) := oc_27 (by decide +kernel)
theorem tw_781 : Cond.methodLink RX4 131 yX4_await ∈ wsL_law := sg_33 _ (List.mem_of_getElem? (i := 13) rfl)
theorem tw_782 : Cond.instanceMethod yX4_await ∈ wsL_law := sg_33 _ (List.mem_of_getElem? (i := 14) rfl)
theorem tw_783 : Cond.selects RX4 yX4_await yX4_await ∈ wsL_law := sg_33 _ (List.mem_of_getElem? (i := 15) rfl)
theorem tw_25 : Cond.initialized RX4 ∈ wsL_law := sg_2 _ (List.mem_of_getElem? (i := 1) rfl)
theorem tw_784 : Cond.code yX4_await cX4_await 2 none ∈ wsL_law := sg_33 _ (List.mem_of_getElem? (i := 16) rfl)
theorem dX4_openUp_57 : decode cX4_openUp 57 = .ok (.invokevirtual 131, 3) := oc_182 (a := 0) (b := 131) (by decide +kernel)
theorem dX4_openUp_60 : decode cX4_openUp 60 = .ok (.return_, 1) := oc_177 (by decide +kernel)
theorem dX4_openUp_47 : decode cX4_openUp 47 = .ok (.iconst 1, 1) := oc_4 (by decide +kernel)
theorem dX4_openUp_48 : decode cX4_openUp 48 = .ok (.goto 4, 3) := oc_167 (a := 0) (b := 4) (by decide +kernel)
theorem dX4_openUp_30 : decode cX4_openUp 30 = .ok (.aload_n 0, 1) := oc_42 (by decide +kernel)
theorem dX4_openUp_31 : decode cX4_openUp 31 = .ok (.dup, 1) := oc_89 (by decide +kernel)
theorem tw_760 : Cond.fieldLink RX4 108 "RingsUnder$Reader" "brackets" "I" ∈ wsL_law := sg_32 _ (List.mem_of_getElem? (i := 16) rfl)
theorem dX4_openUp_32 : decode cX4_openUp 32 = .ok (.getfield 108, 3) := oc_180 (a := 0) (b := 108) (by decide +kernel)
theorem dX4_openUp_35 : decode cX4_openUp 35 = .ok (.iconst 1, 1) := oc_4 (by decide +kernel)
theorem dX4_openUp_36 : decode cX4_openUp 36 = .ok (.iadd, 1) := oc_96 (by decide +kernel)
theorem dX4_openUp_37 : decode cX4_openUp 37 = .ok (.putfield 108, 3) := oc_181 (a := 0) (b := 108) (by decide +kernel)
theorem dX4_openUp_9 : decode cX4_openUp 9 = .ok (.aload_n 0, 1) := oc_42 (by decide +kernel)
theorem dX4_openUp_10 : decode cX4_openUp 10 = .ok (.iconst 3, 1) := oc_6 (by decide +kernel)
theorem tw_748 : Cond.methodLink RX4 57 yX4_refuse ∈ wsL_law := sg_32 _ (List.mem_of_getElem? (i := 4) rfl)
theorem tw_749 : Cond.instanceMethod yX4_refuse ∈ wsL_law := sg_32 _ (List.mem_of_getElem? (i := 5) rfl)
theorem tw_750 : Cond.selects RX4 yX4_refuse yX4_refuse ∈ wsL_law := sg_32 _ (List.mem_of_getElem? (i := 6) rfl)
theorem tw_751 : Cond.code yX4_refuse cX4_refuse 2 none ∈ wsL_law := sg_32 _ (List.mem_of_getElem? (i := 7) rfl)
theorem dX4_openUp_11 : decode cX4_openUp 11 = .ok (.invokevirtual 57, 3) := oc_182 (a := 0) (b := 57) (by decide +kernel)
theorem dX4_readOne_0 : decode cX4_readOne 0 = .ok (.aload_n 0, 1) := oc_42 (by decide +kernel)
theorem dX4_readOne_1 : decode cX4_readOne 1 = .ok (.getfield 12, 3) := oc_180 (a := 0) (b := 12) (by decide +kernel)
theorem tw_657 : Cond.fieldLink RX4 45 "RingsUnder$Scanner" "token" "I" ∈ wsL_law := sg_28 _ (List.mem_of_getElem? (i := 9) rfl)
theorem dX4_readOne_4 : decode cX4_readOne 4 = .ok (.getfield 45, 3) := oc_180 (a := 0) (b := 45) (by decide +kernel)
theorem dX4_readOne_7 : decode cX4_readOne 7 = .ok (.istore_n 1, 1) := oc_60 (by decide +kernel)
theorem dX4_readOne_8 : decode cX4_readOne 8 = .ok (.iload_n 1, 1) := oc_27 (by decide +kernel)
theorem dX4_readOne_9 : decode cX4_readOne 9 = .ok (.bipush 18, 2) := oc_16 (a := 18) (by decide +kernel)
theorem dX4_readOne_11 : decode cX4_readOne 11 = .ok (.if_icmp .ne 34, 3) := oc_160 (a := 0) (b := 34) (by decide +kernel)
theorem dX4_readOne_45 : decode cX4_readOne 45 = .ok (.iload_n 1, 1) := oc_27 (by decide +kernel)
theorem tw_774 : Cond.methodLink RX4 98 yX4_isName ∈ wsL_law := sg_33 _ (List.mem_of_getElem? (i := 6) rfl)
theorem tw_775 : Cond.static yX4_isName ∈ wsL_law := sg_33 _ (List.mem_of_getElem? (i := 7) rfl)
theorem tw_776 : Cond.code yX4_isName cX4_isName 1 (some .boolean) ∈ wsL_law := sg_33 _ (List.mem_of_getElem? (i := 8) rfl)
theorem dX4_readOne_46 : decode cX4_readOne 46 = .ok (.invokestatic 98, 3) := oc_184 (a := 0) (b := 98) (by decide +kernel)
theorem dX4_readOne_49 : decode cX4_readOne 49 = .ok (.ifCond .eq 11, 3) := oc_153 (a := 0) (b := 11) (by decide +kernel)
theorem dX4_readOne_60 : decode cX4_readOne 60 = .ok (.iload_n 1, 1) := oc_27 (by decide +kernel)
theorem dX4_readOne_61 : decode cX4_readOne 61 = .ok (.bipush 26, 2) := oc_16 (a := 26) (by decide +kernel)
theorem dX4_readOne_63 : decode cX4_readOne 63 = .ok (.if_icmp .eq 22, 3) := oc_159 (a := 0) (b := 22) (by decide +kernel)
theorem dX4_readOne_85 : decode cX4_readOne 85 = .ok (.aload_n 0, 1) := oc_42 (by decide +kernel)
theorem dX4_readOne_86 : decode cX4_readOne 86 = .ok (.iload_n 1, 1) := oc_27 (by decide +kernel)
theorem dX4_readOne_87 : decode cX4_readOne 87 = .ok (.bipush 26, 2) := oc_16 (a := 26) (by decide +kernel)
theorem dX4_readOne_89 : decode cX4_readOne 89 = .ok (.if_icmp .ne 8, 3) := oc_160 (a := 0) (b := 8) (by decide +kernel)
theorem dX4_readOne_92 : decode cX4_readOne 92 = .ok (.bipush 35, 2) := oc_16 (a := 35) (by decide +kernel)
theorem dX4_readOne_94 : decode cX4_readOne 94 = .ok (.goto 4, 3) := oc_167 (a := 0) (b := 4) (by decide +kernel)
theorem tw_777 : Cond.methodLink RX4 128 yX4_openUp ∈ wsL_law := sg_33 _ (List.mem_of_getElem? (i := 9) rfl)
theorem tw_778 : Cond.instanceMethod yX4_openUp ∈ wsL_law := sg_33 _ (List.mem_of_getElem? (i := 10) rfl)
theorem tw_779 : Cond.selects RX4 yX4_openUp yX4_openUp ∈ wsL_law := sg_33 _ (List.mem_of_getElem? (i := 11) rfl)
theorem tw_780 : Cond.code yX4_openUp cX4_openUp 2 none ∈ wsL_law := sg_33 _ (List.mem_of_getElem? (i := 12) rfl)
theorem dX4_readOne_98 : decode cX4_readOne 98 = .ok (.invokevirtual 128, 3) := oc_182 (a := 0) (b := 128) (by decide +kernel)
theorem dX4_readOne_101 : decode cX4_readOne 101 = .ok (.goto 8, 3) := oc_167 (a := 0) (b := 8) (by decide +kernel)
theorem dX4_readOne_109 : decode cX4_readOne 109 = .ok (.iconst 1, 1) := oc_4 (by decide +kernel)
theorem dX4_readOne_110 : decode cX4_readOne 110 = .ok (.ireturn, 1) := oc_172 (by decide +kernel)
theorem dX4_readOne_66 : decode cX4_readOne 66 = .ok (.iload_n 1, 1) := oc_27 (by decide +kernel)
theorem dX4_readOne_67 : decode cX4_readOne 67 = .ok (.bipush 29, 2) := oc_16 (a := 29) (by decide +kernel)
theorem dX4_readOne_69 : decode cX4_readOne 69 = .ok (.if_icmp .eq 16, 3) := oc_159 (a := 0) (b := 16) (by decide +kernel)
theorem dX4_readOne_97 : decode cX4_readOne 97 = .ok (.iload_n 1, 1) := oc_27 (by decide +kernel)
theorem dX4_readOne_72 : decode cX4_readOne 72 = .ok (.iload_n 1, 1) := oc_27 (by decide +kernel)
theorem dX4_readOne_73 : decode cX4_readOne 73 = .ok (.bipush 11, 2) := oc_16 (a := 11) (by decide +kernel)
theorem dX4_readOne_75 : decode cX4_readOne 75 = .ok (.if_icmp .ne 29, 3) := oc_160 (a := 0) (b := 29) (by decide +kernel)
theorem dX4_readOne_104 : decode cX4_readOne 104 = .ok (.aload_n 0, 1) := oc_42 (by decide +kernel)
theorem dX4_readOne_105 : decode cX4_readOne 105 = .ok (.iconst 1, 1) := oc_4 (by decide +kernel)
theorem dX4_readOne_106 : decode cX4_readOne 106 = .ok (.invokevirtual 57, 3) := oc_182 (a := 0) (b := 57) (by decide +kernel)
theorem dX4_readOne_78 : decode cX4_readOne 78 = .ok (.aload_n 0, 1) := oc_42 (by decide +kernel)
theorem dX4_readOne_79 : decode cX4_readOne 79 = .ok (.getfield 111, 3) := oc_180 (a := 0) (b := 111) (by decide +kernel)
theorem dX4_readOne_82 : decode cX4_readOne 82 = .ok (.ifCond .eq 22, 3) := oc_153 (a := 0) (b := 22) (by decide +kernel)
theorem dX4_readOne_52 : decode cX4_readOne 52 = .ok (.aload_n 0, 1) := oc_42 (by decide +kernel)
theorem dX4_readOne_53 : decode cX4_readOne 53 = .ok (.iload_n 1, 1) := oc_27 (by decide +kernel)
theorem dX4_readOne_54 : decode cX4_readOne 54 = .ok (.ineg, 1) := oc_116 (by decide +kernel)
theorem tw_769 : Cond.methodLink RX4 89 yX4_emit ∈ wsL_law := sg_33 _ (List.mem_of_getElem? (i := 1) rfl)
theorem tw_770 : Cond.instanceMethod yX4_emit ∈ wsL_law := sg_33 _ (List.mem_of_getElem? (i := 2) rfl)
theorem tw_771 : Cond.selects RX4 yX4_emit yX4_emit ∈ wsL_law := sg_33 _ (List.mem_of_getElem? (i := 3) rfl)
theorem tw_772 : Cond.code yX4_emit cX4_emit 2 none ∈ wsL_law := sg_33 _ (List.mem_of_getElem? (i := 4) rfl)
theorem dX4_readOne_55 : decode cX4_readOne 55 = .ok (.invokevirtual 89, 3) := oc_182 (a := 0) (b := 89) (by decide +kernel)
theorem dX4_readOne_58 : decode cX4_readOne 58 = .ok (.iconst 0, 1) := oc_3 (by decide +kernel)
theorem dX4_readOne_59 : decode cX4_readOne 59 = .ok (.ireturn, 1) := oc_172 (by decide +kernel)
theorem dX4_readOne_14 : decode cX4_readOne 14 = .ok (.aload_n 0, 1) := oc_42 (by decide +kernel)
theorem dX4_readOne_15 : decode cX4_readOne 15 = .ok (.getfield 12, 3) := oc_180 (a := 0) (b := 12) (by decide +kernel)
theorem tw_768 : Cond.fieldLink RX4 86 "RingsUnder$Scanner" "value" "I" ∈ wsL_law := sg_33 _ (List.mem_of_getElem? (i := 0) rfl)
theorem dX4_readOne_18 : decode cX4_readOne 18 = .ok (.getfield 86, 3) := oc_180 (a := 0) (b := 86) (by decide +kernel)
theorem dX4_readOne_21 : decode cX4_readOne 21 = .ok (.sipush 9999, 3) := oc_17 (a := 39) (b := 15) (by decide +kernel)
theorem dX4_readOne_24 : decode cX4_readOne 24 = .ok (.if_icmp .le 8, 3) := oc_164 (a := 0) (b := 8) (by decide +kernel)
theorem dX4_readOne_32 : decode cX4_readOne 32 = .ok (.aload_n 0, 1) := oc_42 (by decide +kernel)
theorem dX4_readOne_33 : decode cX4_readOne 33 = .ok (.aload_n 0, 1) := oc_42 (by decide +kernel)
theorem dX4_readOne_34 : decode cX4_readOne 34 = .ok (.getfield 12, 3) := oc_180 (a := 0) (b := 12) (by decide +kernel)
theorem dX4_readOne_37 : decode cX4_readOne 37 = .ok (.getfield 86, 3) := oc_180 (a := 0) (b := 86) (by decide +kernel)
theorem dX4_readOne_40 : decode cX4_readOne 40 = .ok (.invokevirtual 89, 3) := oc_182 (a := 0) (b := 89) (by decide +kernel)
theorem dX4_readOne_43 : decode cX4_readOne 43 = .ok (.iconst 0, 1) := oc_3 (by decide +kernel)
theorem dX4_readOne_44 : decode cX4_readOne 44 = .ok (.ireturn, 1) := oc_172 (by decide +kernel)
theorem dX4_readOne_27 : decode cX4_readOne 27 = .ok (.aload_n 0, 1) := oc_42 (by decide +kernel)
theorem dX4_readOne_28 : decode cX4_readOne 28 = .ok (.iconst 2, 1) := oc_5 (by decide +kernel)
theorem dX4_readOne_29 : decode cX4_readOne 29 = .ok (.invokevirtual 57, 3) := oc_182 (a := 0) (b := 57) (by decide +kernel)
theorem dX4_rank_0 : decode cX4_rank 0 = .ok (.iload_n 0, 1) := oc_26 (by decide +kernel)
theorem dX4_rank_1 : decode cX4_rank 1 = .ok (.tableswitch 139 9 35 #[123, 125, 127, 139, 139, 139, 139, 139, 139, 139, 139, 139, 139, 139, 139, 139, 129, 129, 131, 131, 137, 139, 139, 139, 139, 139, 134], 123) := by decide +kernel
theorem dX4_rank_124 : decode cX4_rank 124 = .ok (.iconst 1, 1) := oc_4 (by decide +kernel)
theorem dX4_rank_125 : decode cX4_rank 125 = .ok (.ireturn, 1) := oc_172 (by decide +kernel)
theorem dX4_rank_126 : decode cX4_rank 126 = .ok (.iconst 2, 1) := oc_5 (by decide +kernel)
theorem dX4_rank_127 : decode cX4_rank 127 = .ok (.ireturn, 1) := oc_172 (by decide +kernel)
theorem dX4_rank_128 : decode cX4_rank 128 = .ok (.iconst 3, 1) := oc_6 (by decide +kernel)
theorem dX4_rank_129 : decode cX4_rank 129 = .ok (.ireturn, 1) := oc_172 (by decide +kernel)
theorem dX4_rank_140 : decode cX4_rank 140 = .ok (.iconst 4, 1) := oc_7 (by decide +kernel)
theorem dX4_rank_141 : decode cX4_rank 141 = .ok (.ireturn, 1) := oc_172 (by decide +kernel)
theorem dX4_rank_130 : decode cX4_rank 130 = .ok (.iconst 5, 1) := oc_8 (by decide +kernel)
theorem dX4_rank_131 : decode cX4_rank 131 = .ok (.ireturn, 1) := oc_172 (by decide +kernel)
theorem dX4_rank_132 : decode cX4_rank 132 = .ok (.bipush 6, 2) := oc_16 (a := 6) (by decide +kernel)
theorem dX4_rank_134 : decode cX4_rank 134 = .ok (.ireturn, 1) := oc_172 (by decide +kernel)
theorem dX4_rank_138 : decode cX4_rank 138 = .ok (.iconst 0, 1) := oc_3 (by decide +kernel)
theorem dX4_rank_139 : decode cX4_rank 139 = .ok (.ireturn, 1) := oc_172 (by decide +kernel)
theorem dX4_rank_135 : decode cX4_rank 135 = .ok (.bipush 7, 2) := oc_16 (a := 7) (by decide +kernel)
theorem dX4_rank_137 : decode cX4_rank 137 = .ok (.ireturn, 1) := oc_172 (by decide +kernel)
theorem dX4_settle_0 : decode cX4_settle 0 = .ok (.aload_n 0, 1) := oc_42 (by decide +kernel)
theorem dX4_settle_1 : decode cX4_settle 1 = .ok (.getfield 102, 3) := oc_180 (a := 0) (b := 102) (by decide +kernel)
theorem dX4_settle_4 : decode cX4_settle 4 = .ok (.ifCond .le 72, 3) := oc_158 (a := 0) (b := 72) (by decide +kernel)
theorem dX4_settle_76 : decode cX4_settle 76 = .ok (.return_, 1) := oc_177 (by decide +kernel)
theorem dX4_settle_7 : decode cX4_settle 7 = .ok (.aload_n 0, 1) := oc_42 (by decide +kernel)
theorem dX4_settle_8 : decode cX4_settle 8 = .ok (.getfield 32, 3) := oc_180 (a := 0) (b := 32) (by decide +kernel)
theorem dX4_settle_11 : decode cX4_settle 11 = .ok (.aload_n 0, 1) := oc_42 (by decide +kernel)
theorem dX4_settle_12 : decode cX4_settle 12 = .ok (.getfield 102, 3) := oc_180 (a := 0) (b := 102) (by decide +kernel)
theorem dX4_settle_15 : decode cX4_settle 15 = .ok (.iconst 1, 1) := oc_4 (by decide +kernel)
theorem dX4_settle_16 : decode cX4_settle 16 = .ok (.isub, 1) := oc_100 (by decide +kernel)
theorem dX4_settle_17 : decode cX4_settle 17 = .ok (.iaload, 1) := oc_46 (by decide +kernel)
theorem tw_790 : Cond.methodLink RX4 134 yX4_rank ∈ wsL_law := sg_33 _ (List.mem_of_getElem? (i := 22) rfl)
theorem tw_791 : Cond.static yX4_rank ∈ wsL_law := sg_33 _ (List.mem_of_getElem? (i := 23) rfl)
theorem tw_792 : Cond.code yX4_rank cX4_rank 1 (some .int) ∈ wsL_law := sg_34 _ (List.mem_of_getElem? (i := 0) rfl)
theorem dX4_settle_18 : decode cX4_settle 18 = .ok (.invokestatic 134, 3) := oc_184 (a := 0) (b := 134) (by decide +kernel)
theorem dX4_settle_21 : decode cX4_settle 21 = .ok (.iload_n 1, 1) := oc_27 (by decide +kernel)
theorem dX4_settle_22 : decode cX4_settle 22 = .ok (.if_icmp .lt 54, 3) := oc_161 (a := 0) (b := 54) (by decide +kernel)
theorem dX4_settle_25 : decode cX4_settle 25 = .ok (.aload_n 0, 1) := oc_42 (by decide +kernel)
theorem dX4_settle_26 : decode cX4_settle 26 = .ok (.dup, 1) := oc_89 (by decide +kernel)
theorem dX4_settle_27 : decode cX4_settle 27 = .ok (.getfield 102, 3) := oc_180 (a := 0) (b := 102) (by decide +kernel)
theorem dX4_settle_30 : decode cX4_settle 30 = .ok (.iconst 1, 1) := oc_4 (by decide +kernel)
theorem dX4_settle_31 : decode cX4_settle 31 = .ok (.isub, 1) := oc_100 (by decide +kernel)
theorem dX4_settle_32 : decode cX4_settle 32 = .ok (.putfield 102, 3) := oc_181 (a := 0) (b := 102) (by decide +kernel)
theorem dX4_settle_35 : decode cX4_settle 35 = .ok (.aload_n 0, 1) := oc_42 (by decide +kernel)
theorem dX4_settle_36 : decode cX4_settle 36 = .ok (.getfield 32, 3) := oc_180 (a := 0) (b := 32) (by decide +kernel)
theorem dX4_settle_39 : decode cX4_settle 39 = .ok (.aload_n 0, 1) := oc_42 (by decide +kernel)
theorem dX4_settle_40 : decode cX4_settle 40 = .ok (.getfield 102, 3) := oc_180 (a := 0) (b := 102) (by decide +kernel)
theorem dX4_settle_43 : decode cX4_settle 43 = .ok (.iaload, 1) := oc_46 (by decide +kernel)
theorem dX4_settle_44 : decode cX4_settle 44 = .ok (.istore_n 2, 1) := oc_61 (by decide +kernel)
theorem dX4_settle_45 : decode cX4_settle 45 = .ok (.aload_n 0, 1) := oc_42 (by decide +kernel)
theorem dX4_settle_46 : decode cX4_settle 46 = .ok (.iload_n 2, 1) := oc_28 (by decide +kernel)
theorem dX4_settle_47 : decode cX4_settle 47 = .ok (.ineg, 1) := oc_116 (by decide +kernel)
theorem dX4_settle_48 : decode cX4_settle 48 = .ok (.invokevirtual 89, 3) := oc_182 (a := 0) (b := 89) (by decide +kernel)
theorem dX4_settle_51 : decode cX4_settle 51 = .ok (.iload_n 2, 1) := oc_28 (by decide +kernel)
theorem dX4_settle_52 : decode cX4_settle 52 = .ok (.bipush 11, 2) := oc_16 (a := 11) (by decide +kernel)
theorem dX4_settle_54 : decode cX4_settle 54 = .ok (.if_icmp .eq 9, 3) := oc_159 (a := 0) (b := 9) (by decide +kernel)
theorem dX4_settle_63 : decode cX4_settle 63 = .ok (.aload_n 0, 1) := oc_42 (by decide +kernel)
theorem dX4_settle_64 : decode cX4_settle 64 = .ok (.dup, 1) := oc_89 (by decide +kernel)
theorem dX4_settle_65 : decode cX4_settle 65 = .ok (.getfield 105, 3) := oc_180 (a := 0) (b := 105) (by decide +kernel)
theorem dX4_settle_68 : decode cX4_settle 68 = .ok (.iconst 1, 1) := oc_4 (by decide +kernel)
theorem dX4_settle_69 : decode cX4_settle 69 = .ok (.isub, 1) := oc_100 (by decide +kernel)
theorem dX4_settle_70 : decode cX4_settle 70 = .ok (.putfield 105, 3) := oc_181 (a := 0) (b := 105) (by decide +kernel)
theorem dX4_settle_73 : decode cX4_settle 73 = .ok (.goto (-73), 3) := oc_167 (a := 255) (b := 183) (by decide +kernel)
theorem dX4_settle_57 : decode cX4_settle 57 = .ok (.iload_n 2, 1) := oc_28 (by decide +kernel)
theorem dX4_settle_58 : decode cX4_settle 58 = .ok (.bipush 35, 2) := oc_16 (a := 35) (by decide +kernel)
theorem dX4_settle_60 : decode cX4_settle 60 = .ok (.if_icmp .ne 13, 3) := oc_160 (a := 0) (b := 13) (by decide +kernel)
theorem dX4_readBehindOne_0 : decode cX4_readBehindOne 0 = .ok (.aload_n 0, 1) := oc_42 (by decide +kernel)
theorem dX4_readBehindOne_1 : decode cX4_readBehindOne 1 = .ok (.getfield 12, 3) := oc_180 (a := 0) (b := 12) (by decide +kernel)
theorem dX4_readBehindOne_4 : decode cX4_readBehindOne 4 = .ok (.getfield 45, 3) := oc_180 (a := 0) (b := 45) (by decide +kernel)
theorem dX4_readBehindOne_7 : decode cX4_readBehindOne 7 = .ok (.istore_n 1, 1) := oc_60 (by decide +kernel)
theorem dX4_readBehindOne_8 : decode cX4_readBehindOne 8 = .ok (.aload_n 0, 1) := oc_42 (by decide +kernel)
theorem dX4_readBehindOne_9 : decode cX4_readBehindOne 9 = .ok (.iconst 0, 1) := oc_3 (by decide +kernel)
theorem dX4_readBehindOne_10 : decode cX4_readBehindOne 10 = .ok (.putfield 111, 3) := oc_181 (a := 0) (b := 111) (by decide +kernel)
theorem dX4_readBehindOne_13 : decode cX4_readBehindOne 13 = .ok (.iload_n 1, 1) := oc_27 (by decide +kernel)
theorem dX4_readBehindOne_14 : decode cX4_readBehindOne 14 = .ok (.bipush 25, 2) := oc_16 (a := 25) (by decide +kernel)
theorem dX4_readBehindOne_16 : decode cX4_readBehindOne 16 = .ok (.if_icmp .lt 24, 3) := oc_161 (a := 0) (b := 24) (by decide +kernel)
theorem dX4_readBehindOne_40 : decode cX4_readBehindOne 40 = .ok (.aload_n 0, 1) := oc_42 (by decide +kernel)
theorem dX4_readBehindOne_41 : decode cX4_readBehindOne 41 = .ok (.getfield 108, 3) := oc_180 (a := 0) (b := 108) (by decide +kernel)
theorem dX4_readBehindOne_44 : decode cX4_readBehindOne 44 = .ok (.ifCond .le 55, 3) := oc_158 (a := 0) (b := 55) (by decide +kernel)
theorem dX4_readBehindOne_99 : decode cX4_readBehindOne 99 = .ok (.aload_n 0, 1) := oc_42 (by decide +kernel)
theorem tw_762 : Cond.fieldLink RX4 115 "RingsUnder$Reader" "compared" "Z" ∈ wsL_law := sg_32 _ (List.mem_of_getElem? (i := 18) rfl)
theorem dX4_readBehindOne_100 : decode cX4_readBehindOne 100 = .ok (.getfield 115, 3) := oc_180 (a := 0) (b := 115) (by decide +kernel)
theorem dX4_readBehindOne_103 : decode cX4_readBehindOne 103 = .ok (.ifCond .ne 35, 3) := oc_154 (a := 0) (b := 35) (by decide +kernel)
theorem dX4_readBehindOne_138 : decode cX4_readBehindOne 138 = .ok (.aload_n 0, 1) := oc_42 (by decide +kernel)
theorem dX4_readBehindOne_139 : decode cX4_readBehindOne 139 = .ok (.getfield 115, 3) := oc_180 (a := 0) (b := 115) (by decide +kernel)
theorem dX4_readBehindOne_142 : decode cX4_readBehindOne 142 = .ok (.ifCond .eq 40, 3) := oc_153 (a := 0) (b := 40) (by decide +kernel)
theorem dX4_readBehindOne_145 : decode cX4_readBehindOne 145 = .ok (.iload_n 1, 1) := oc_27 (by decide +kernel)
theorem dX4_readBehindOne_146 : decode cX4_readBehindOne 146 = .ok (.bipush 9, 2) := oc_16 (a := 9) (by decide +kernel)
theorem dX4_readBehindOne_148 : decode cX4_readBehindOne 148 = .ok (.if_icmp .eq 9, 3) := oc_159 (a := 0) (b := 9) (by decide +kernel)
theorem dX4_readBehindOne_157 : decode cX4_readBehindOne 157 = .ok (.aload_n 0, 1) := oc_42 (by decide +kernel)
theorem dX4_readBehindOne_158 : decode cX4_readBehindOne 158 = .ok (.iconst 0, 1) := oc_3 (by decide +kernel)
theorem dX4_readBehindOne_159 : decode cX4_readBehindOne 159 = .ok (.putfield 115, 3) := oc_181 (a := 0) (b := 115) (by decide +kernel)
theorem dX4_readBehindOne_162 : decode cX4_readBehindOne 162 = .ok (.aload_n 0, 1) := oc_42 (by decide +kernel)
theorem dX4_readBehindOne_163 : decode cX4_readBehindOne 163 = .ok (.iconst 1, 1) := oc_4 (by decide +kernel)
theorem dX4_readBehindOne_164 : decode cX4_readBehindOne 164 = .ok (.putfield 111, 3) := oc_181 (a := 0) (b := 111) (by decide +kernel)
theorem dX4_readBehindOne_167 : decode cX4_readBehindOne 167 = .ok (.aload_n 0, 1) := oc_42 (by decide +kernel)
theorem dX4_readBehindOne_168 : decode cX4_readBehindOne 168 = .ok (.iload_n 1, 1) := oc_27 (by decide +kernel)
theorem dX4_readBehindOne_169 : decode cX4_readBehindOne 169 = .ok (.invokestatic 134, 3) := oc_184 (a := 0) (b := 134) (by decide +kernel)
theorem tw_793 : Cond.methodLink RX4 137 yX4_settle ∈ wsL_law := sg_34 _ (List.mem_of_getElem? (i := 1) rfl)
theorem tw_794 : Cond.instanceMethod yX4_settle ∈ wsL_law := sg_34 _ (List.mem_of_getElem? (i := 2) rfl)
theorem tw_795 : Cond.selects RX4 yX4_settle yX4_settle ∈ wsL_law := sg_34 _ (List.mem_of_getElem? (i := 3) rfl)
theorem tw_796 : Cond.code yX4_settle cX4_settle 3 none ∈ wsL_law := sg_34 _ (List.mem_of_getElem? (i := 4) rfl)
theorem dX4_readBehindOne_172 : decode cX4_readBehindOne 172 = .ok (.invokevirtual 137, 3) := oc_182 (a := 0) (b := 137) (by decide +kernel)
theorem dX4_readBehindOne_175 : decode cX4_readBehindOne 175 = .ok (.aload_n 0, 1) := oc_42 (by decide +kernel)
theorem dX4_readBehindOne_176 : decode cX4_readBehindOne 176 = .ok (.iload_n 1, 1) := oc_27 (by decide +kernel)
theorem dX4_readBehindOne_177 : decode cX4_readBehindOne 177 = .ok (.invokevirtual 131, 3) := oc_182 (a := 0) (b := 131) (by decide +kernel)
theorem dX4_readBehindOne_180 : decode cX4_readBehindOne 180 = .ok (.iconst 1, 1) := oc_4 (by decide +kernel)
theorem dX4_readBehindOne_181 : decode cX4_readBehindOne 181 = .ok (.ireturn, 1) := oc_172 (by decide +kernel)
theorem dX4_readBehindOne_151 : decode cX4_readBehindOne 151 = .ok (.iload_n 1, 1) := oc_27 (by decide +kernel)
theorem dX4_readBehindOne_152 : decode cX4_readBehindOne 152 = .ok (.bipush 10, 2) := oc_16 (a := 10) (by decide +kernel)
theorem dX4_readBehindOne_154 : decode cX4_readBehindOne 154 = .ok (.if_icmp .ne 28, 3) := oc_160 (a := 0) (b := 28) (by decide +kernel)
theorem dX4_readBehindOne_182 : decode cX4_readBehindOne 182 = .ok (.aload_n 0, 1) := oc_42 (by decide +kernel)
theorem dX4_readBehindOne_183 : decode cX4_readBehindOne 183 = .ok (.getfield 115, 3) := oc_180 (a := 0) (b := 115) (by decide +kernel)
theorem dX4_readBehindOne_186 : decode cX4_readBehindOne 186 = .ok (.ifCond .eq 9, 3) := oc_153 (a := 0) (b := 9) (by decide +kernel)
theorem dX4_readBehindOne_189 : decode cX4_readBehindOne 189 = .ok (.iload_n 1, 1) := oc_27 (by decide +kernel)
theorem dX4_readBehindOne_190 : decode cX4_readBehindOne 190 = .ok (.bipush 32, 2) := oc_16 (a := 32) (by decide +kernel)
theorem dX4_readBehindOne_192 : decode cX4_readBehindOne 192 = .ok (.if_icmp .eq 8, 3) := oc_159 (a := 0) (b := 8) (by decide +kernel)
theorem dX4_readBehindOne_195 : decode cX4_readBehindOne 195 = .ok (.aload_n 0, 1) := oc_42 (by decide +kernel)
theorem dX4_readBehindOne_196 : decode cX4_readBehindOne 196 = .ok (.iconst 1, 1) := oc_4 (by decide +kernel)
theorem dX4_readBehindOne_197 : decode cX4_readBehindOne 197 = .ok (.invokevirtual 57, 3) := oc_182 (a := 0) (b := 57) (by decide +kernel)
theorem dX4_readBehindOne_200 : decode cX4_readBehindOne 200 = .ok (.aload_n 0, 1) := oc_42 (by decide +kernel)
theorem dX4_readBehindOne_201 : decode cX4_readBehindOne 201 = .ok (.iconst 1, 1) := oc_4 (by decide +kernel)
theorem dX4_readBehindOne_202 : decode cX4_readBehindOne 202 = .ok (.invokevirtual 137, 3) := oc_182 (a := 0) (b := 137) (by decide +kernel)
theorem dX4_readBehindOne_205 : decode cX4_readBehindOne 205 = .ok (.aload_n 0, 1) := oc_42 (by decide +kernel)
theorem dX4_readBehindOne_206 : decode cX4_readBehindOne 206 = .ok (.iconst 1, 1) := oc_4 (by decide +kernel)
theorem tw_763 : Cond.fieldLink RX4 118 "RingsUnder$Reader" "closed" "Z" ∈ wsL_law := sg_32 _ (List.mem_of_getElem? (i := 19) rfl)
theorem dX4_readBehindOne_207 : decode cX4_readBehindOne 207 = .ok (.putfield 118, 3) := oc_181 (a := 0) (b := 118) (by decide +kernel)
theorem dX4_readBehindOne_210 : decode cX4_readBehindOne 210 = .ok (.iconst 0, 1) := oc_3 (by decide +kernel)
theorem dX4_readBehindOne_211 : decode cX4_readBehindOne 211 = .ok (.ireturn, 1) := oc_172 (by decide +kernel)
theorem dX4_readBehindOne_106 : decode cX4_readBehindOne 106 = .ok (.iload_n 1, 1) := oc_27 (by decide +kernel)
theorem dX4_readBehindOne_107 : decode cX4_readBehindOne 107 = .ok (.bipush 19, 2) := oc_16 (a := 19) (by decide +kernel)
theorem dX4_readBehindOne_109 : decode cX4_readBehindOne 109 = .ok (.if_icmp .lt 29, 3) := oc_161 (a := 0) (b := 29) (by decide +kernel)
theorem dX4_readBehindOne_112 : decode cX4_readBehindOne 112 = .ok (.iload_n 1, 1) := oc_27 (by decide +kernel)
theorem dX4_readBehindOne_113 : decode cX4_readBehindOne 113 = .ok (.bipush 24, 2) := oc_16 (a := 24) (by decide +kernel)
theorem dX4_readBehindOne_115 : decode cX4_readBehindOne 115 = .ok (.if_icmp .gt 23, 3) := oc_163 (a := 0) (b := 23) (by decide +kernel)
theorem dX4_readBehindOne_118 : decode cX4_readBehindOne 118 = .ok (.aload_n 0, 1) := oc_42 (by decide +kernel)
theorem dX4_readBehindOne_119 : decode cX4_readBehindOne 119 = .ok (.iconst 1, 1) := oc_4 (by decide +kernel)
theorem dX4_readBehindOne_120 : decode cX4_readBehindOne 120 = .ok (.putfield 115, 3) := oc_181 (a := 0) (b := 115) (by decide +kernel)
theorem dX4_readBehindOne_123 : decode cX4_readBehindOne 123 = .ok (.aload_n 0, 1) := oc_42 (by decide +kernel)
theorem dX4_readBehindOne_124 : decode cX4_readBehindOne 124 = .ok (.iload_n 1, 1) := oc_27 (by decide +kernel)
theorem dX4_readBehindOne_125 : decode cX4_readBehindOne 125 = .ok (.invokestatic 134, 3) := oc_184 (a := 0) (b := 134) (by decide +kernel)
theorem dX4_readBehindOne_128 : decode cX4_readBehindOne 128 = .ok (.invokevirtual 137, 3) := oc_182 (a := 0) (b := 137) (by decide +kernel)
theorem dX4_readBehindOne_131 : decode cX4_readBehindOne 131 = .ok (.aload_n 0, 1) := oc_42 (by decide +kernel)
theorem dX4_readBehindOne_132 : decode cX4_readBehindOne 132 = .ok (.iload_n 1, 1) := oc_27 (by decide +kernel)
theorem dX4_readBehindOne_133 : decode cX4_readBehindOne 133 = .ok (.invokevirtual 131, 3) := oc_182 (a := 0) (b := 131) (by decide +kernel)
theorem dX4_readBehindOne_136 : decode cX4_readBehindOne 136 = .ok (.iconst 1, 1) := oc_4 (by decide +kernel)
theorem dX4_readBehindOne_137 : decode cX4_readBehindOne 137 = .ok (.ireturn, 1) := oc_172 (by decide +kernel)
theorem dX4_readBehindOne_47 : decode cX4_readBehindOne 47 = .ok (.iload_n 1, 1) := oc_27 (by decide +kernel)
theorem dX4_readBehindOne_48 : decode cX4_readBehindOne 48 = .ok (.bipush 30, 2) := oc_16 (a := 30) (by decide +kernel)
theorem dX4_readBehindOne_50 : decode cX4_readBehindOne 50 = .ok (.if_icmp .eq 8, 3) := oc_159 (a := 0) (b := 8) (by decide +kernel)
theorem dX4_readBehindOne_53 : decode cX4_readBehindOne 53 = .ok (.aload_n 0, 1) := oc_42 (by decide +kernel)
theorem dX4_readBehindOne_54 : decode cX4_readBehindOne 54 = .ok (.iconst 1, 1) := oc_4 (by decide +kernel)
theorem dX4_readBehindOne_55 : decode cX4_readBehindOne 55 = .ok (.invokevirtual 57, 3) := oc_182 (a := 0) (b := 57) (by decide +kernel)
theorem dX4_readBehindOne_58 : decode cX4_readBehindOne 58 = .ok (.aload_n 0, 1) := oc_42 (by decide +kernel)
theorem dX4_readBehindOne_59 : decode cX4_readBehindOne 59 = .ok (.iconst 1, 1) := oc_4 (by decide +kernel)
theorem dX4_readBehindOne_60 : decode cX4_readBehindOne 60 = .ok (.invokevirtual 137, 3) := oc_182 (a := 0) (b := 137) (by decide +kernel)
theorem dX4_readBehindOne_63 : decode cX4_readBehindOne 63 = .ok (.aload_n 0, 1) := oc_42 (by decide +kernel)
theorem dX4_readBehindOne_64 : decode cX4_readBehindOne 64 = .ok (.dup, 1) := oc_89 (by decide +kernel)
theorem dX4_readBehindOne_65 : decode cX4_readBehindOne 65 = .ok (.getfield 108, 3) := oc_180 (a := 0) (b := 108) (by decide +kernel)
theorem dX4_readBehindOne_68 : decode cX4_readBehindOne 68 = .ok (.iconst 1, 1) := oc_4 (by decide +kernel)
theorem dX4_readBehindOne_69 : decode cX4_readBehindOne 69 = .ok (.isub, 1) := oc_100 (by decide +kernel)
theorem dX4_readBehindOne_70 : decode cX4_readBehindOne 70 = .ok (.putfield 108, 3) := oc_181 (a := 0) (b := 108) (by decide +kernel)
theorem dX4_readBehindOne_73 : decode cX4_readBehindOne 73 = .ok (.aload_n 0, 1) := oc_42 (by decide +kernel)
theorem dX4_readBehindOne_74 : decode cX4_readBehindOne 74 = .ok (.dup, 1) := oc_89 (by decide +kernel)
theorem dX4_readBehindOne_75 : decode cX4_readBehindOne 75 = .ok (.getfield 105, 3) := oc_180 (a := 0) (b := 105) (by decide +kernel)
theorem dX4_readBehindOne_78 : decode cX4_readBehindOne 78 = .ok (.iconst 1, 1) := oc_4 (by decide +kernel)
theorem dX4_readBehindOne_79 : decode cX4_readBehindOne 79 = .ok (.isub, 1) := oc_100 (by decide +kernel)
theorem dX4_readBehindOne_80 : decode cX4_readBehindOne 80 = .ok (.putfield 105, 3) := oc_181 (a := 0) (b := 105) (by decide +kernel)
theorem dX4_readBehindOne_83 : decode cX4_readBehindOne 83 = .ok (.aload_n 0, 1) := oc_42 (by decide +kernel)
theorem dX4_readBehindOne_84 : decode cX4_readBehindOne 84 = .ok (.iconst 0, 1) := oc_3 (by decide +kernel)
theorem dX4_readBehindOne_85 : decode cX4_readBehindOne 85 = .ok (.aload_n 0, 1) := oc_42 (by decide +kernel)
theorem dX4_readBehindOne_86 : decode cX4_readBehindOne 86 = .ok (.getfield 102, 3) := oc_180 (a := 0) (b := 102) (by decide +kernel)
theorem dX4_readBehindOne_89 : decode cX4_readBehindOne 89 = .ok (.iconst 1, 1) := oc_4 (by decide +kernel)
theorem dX4_readBehindOne_90 : decode cX4_readBehindOne 90 = .ok (.isub, 1) := oc_100 (by decide +kernel)
theorem tw_789 : Cond.methodLink RX4 140 Lib.Math.max.name ∈ wsL_law := sg_33 _ (List.mem_of_getElem? (i := 21) rfl)
theorem dX4_readBehindOne_91 : decode cX4_readBehindOne 91 = .ok (.invokestatic 140, 3) := oc_184 (a := 0) (b := 140) (by decide +kernel)
theorem dX4_readBehindOne_94 : decode cX4_readBehindOne 94 = .ok (.putfield 102, 3) := oc_181 (a := 0) (b := 102) (by decide +kernel)
theorem dX4_readBehindOne_97 : decode cX4_readBehindOne 97 = .ok (.iconst 0, 1) := oc_3 (by decide +kernel)
theorem dX4_readBehindOne_98 : decode cX4_readBehindOne 98 = .ok (.ireturn, 1) := oc_172 (by decide +kernel)
theorem dX4_readBehindOne_19 : decode cX4_readBehindOne 19 = .ok (.iload_n 1, 1) := oc_27 (by decide +kernel)
theorem dX4_readBehindOne_20 : decode cX4_readBehindOne 20 = .ok (.bipush 28, 2) := oc_16 (a := 28) (by decide +kernel)
theorem dX4_readBehindOne_22 : decode cX4_readBehindOne 22 = .ok (.if_icmp .gt 18, 3) := oc_163 (a := 0) (b := 18) (by decide +kernel)
theorem dX4_readBehindOne_25 : decode cX4_readBehindOne 25 = .ok (.aload_n 0, 1) := oc_42 (by decide +kernel)
theorem dX4_readBehindOne_26 : decode cX4_readBehindOne 26 = .ok (.iload_n 1, 1) := oc_27 (by decide +kernel)
theorem dX4_readBehindOne_27 : decode cX4_readBehindOne 27 = .ok (.invokestatic 134, 3) := oc_184 (a := 0) (b := 134) (by decide +kernel)
theorem dX4_readBehindOne_30 : decode cX4_readBehindOne 30 = .ok (.invokevirtual 137, 3) := oc_182 (a := 0) (b := 137) (by decide +kernel)
theorem dX4_readBehindOne_33 : decode cX4_readBehindOne 33 = .ok (.aload_n 0, 1) := oc_42 (by decide +kernel)
theorem dX4_readBehindOne_34 : decode cX4_readBehindOne 34 = .ok (.iload_n 1, 1) := oc_27 (by decide +kernel)
theorem dX4_readBehindOne_35 : decode cX4_readBehindOne 35 = .ok (.invokevirtual 131, 3) := oc_182 (a := 0) (b := 131) (by decide +kernel)
theorem dX4_readBehindOne_38 : decode cX4_readBehindOne 38 = .ok (.iconst 1, 1) := oc_4 (by decide +kernel)
theorem dX4_readBehindOne_39 : decode cX4_readBehindOne 39 = .ok (.ireturn, 1) := oc_172 (by decide +kernel)
theorem dX4_readEither_0 : decode cX4_readEither 0 = .ok (.aload_n 0, 1) := oc_42 (by decide +kernel)
theorem dX4_readEither_1 : decode cX4_readEither 1 = .ok (.iconst 0, 1) := oc_3 (by decide +kernel)
theorem dX4_readEither_2 : decode cX4_readEither 2 = .ok (.putfield 102, 3) := oc_181 (a := 0) (b := 102) (by decide +kernel)
theorem dX4_readEither_5 : decode cX4_readEither 5 = .ok (.aload_n 0, 1) := oc_42 (by decide +kernel)
theorem dX4_readEither_6 : decode cX4_readEither 6 = .ok (.iconst 0, 1) := oc_3 (by decide +kernel)
theorem dX4_readEither_7 : decode cX4_readEither 7 = .ok (.putfield 105, 3) := oc_181 (a := 0) (b := 105) (by decide +kernel)
theorem dX4_readEither_10 : decode cX4_readEither 10 = .ok (.aload_n 0, 1) := oc_42 (by decide +kernel)
theorem dX4_readEither_11 : decode cX4_readEither 11 = .ok (.iconst 0, 1) := oc_3 (by decide +kernel)
theorem dX4_readEither_12 : decode cX4_readEither 12 = .ok (.putfield 108, 3) := oc_181 (a := 0) (b := 108) (by decide +kernel)
theorem dX4_readEither_15 : decode cX4_readEither 15 = .ok (.aload_n 0, 1) := oc_42 (by decide +kernel)
theorem dX4_readEither_16 : decode cX4_readEither 16 = .ok (.iconst 1, 1) := oc_4 (by decide +kernel)
theorem dX4_readEither_17 : decode cX4_readEither 17 = .ok (.putfield 111, 3) := oc_181 (a := 0) (b := 111) (by decide +kernel)
theorem dX4_readEither_20 : decode cX4_readEither 20 = .ok (.aload_n 0, 1) := oc_42 (by decide +kernel)
theorem dX4_readEither_21 : decode cX4_readEither 21 = .ok (.iconst 0, 1) := oc_3 (by decide +kernel)
theorem dX4_readEither_22 : decode cX4_readEither 22 = .ok (.putfield 115, 3) := oc_181 (a := 0) (b := 115) (by decide +kernel)
theorem dX4_readEither_25 : decode cX4_readEither 25 = .ok (.aload_n 0, 1) := oc_42 (by decide +kernel)
theorem dX4_readEither_26 : decode cX4_readEither 26 = .ok (.iconst 0, 1) := oc_3 (by decide +kernel)
theorem dX4_readEither_27 : decode cX4_readEither 27 = .ok (.putfield 118, 3) := oc_181 (a := 0) (b := 118) (by decide +kernel)
theorem dX4_readEither_30 : decode cX4_readEither 30 = .ok (.iconst 1, 1) := oc_4 (by decide +kernel)
theorem dX4_readEither_31 : decode cX4_readEither 31 = .ok (.istore_n 1, 1) := oc_60 (by decide +kernel)
theorem dX4_readEither_32 : decode cX4_readEither 32 = .ok (.iconst 0, 1) := oc_3 (by decide +kernel)
theorem dX4_readEither_33 : decode cX4_readEither 33 = .ok (.istore_n 2, 1) := oc_61 (by decide +kernel)
theorem dX4_readEither_34 : decode cX4_readEither 34 = .ok (.iload_n 2, 1) := oc_28 (by decide +kernel)
theorem dX4_readEither_35 : decode cX4_readEither 35 = .ok (.sipush 300, 3) := oc_17 (a := 1) (b := 44) (by decide +kernel)
theorem dX4_readEither_38 : decode cX4_readEither 38 = .ok (.if_icmp .gt 46, 3) := oc_163 (a := 0) (b := 46) (by decide +kernel)
theorem dX4_readEither_84 : decode cX4_readEither 84 = .ok (.return_, 1) := oc_177 (by decide +kernel)
theorem dX4_readEither_41 : decode cX4_readEither 41 = .ok (.aload_n 0, 1) := oc_42 (by decide +kernel)
theorem dX4_readEither_42 : decode cX4_readEither 42 = .ok (.getfield 18, 3) := oc_180 (a := 0) (b := 18) (by decide +kernel)
theorem dX4_readEither_45 : decode cX4_readEither 45 = .ok (.ifCond .ne 39, 3) := oc_154 (a := 0) (b := 39) (by decide +kernel)
theorem dX4_readEither_48 : decode cX4_readEither 48 = .ok (.aload_n 0, 1) := oc_42 (by decide +kernel)
theorem dX4_readEither_49 : decode cX4_readEither 49 = .ok (.getfield 118, 3) := oc_180 (a := 0) (b := 118) (by decide +kernel)
theorem dX4_readEither_52 : decode cX4_readEither 52 = .ok (.ifCond .ne 32, 3) := oc_154 (a := 0) (b := 32) (by decide +kernel)
theorem dX4_readEither_55 : decode cX4_readEither 55 = .ok (.aload_n 0, 1) := oc_42 (by decide +kernel)
theorem dX4_readEither_56 : decode cX4_readEither 56 = .ok (.getfield 12, 3) := oc_180 (a := 0) (b := 12) (by decide +kernel)
theorem tw_663 : Cond.methodLink RX4 42 yX6_advance ∈ wsL_law := sg_28 _ (List.mem_of_getElem? (i := 15) rfl)
theorem tw_664 : Cond.instanceMethod yX6_advance ∈ wsL_law := sg_28 _ (List.mem_of_getElem? (i := 16) rfl)
theorem tw_665 : Cond.selects RX6 yX6_advance yX6_advance ∈ wsL_law := sg_28 _ (List.mem_of_getElem? (i := 17) rfl)
theorem tw_666 : Cond.code yX6_advance cX6_advance 1 none ∈ wsL_law := sg_28 _ (List.mem_of_getElem? (i := 18) rfl)
theorem dX4_readEither_59 : decode cX4_readEither 59 = .ok (.invokevirtual 42, 3) := oc_182 (a := 0) (b := 42) (by decide +kernel)
theorem dX4_readEither_62 : decode cX4_readEither 62 = .ok (.iload_n 1, 1) := oc_27 (by decide +kernel)
theorem dX4_readEither_63 : decode cX4_readEither 63 = .ok (.ifCond .eq 10, 3) := oc_153 (a := 0) (b := 10) (by decide +kernel)
theorem dX4_readEither_73 : decode cX4_readEither 73 = .ok (.aload_n 0, 1) := oc_42 (by decide +kernel)
theorem tw_785 : Cond.methodLink RX4 125 yX4_readBehindOne ∈ wsL_law := sg_33 _ (List.mem_of_getElem? (i := 17) rfl)
theorem tw_786 : Cond.instanceMethod yX4_readBehindOne ∈ wsL_law := sg_33 _ (List.mem_of_getElem? (i := 18) rfl)
theorem tw_787 : Cond.selects RX4 yX4_readBehindOne yX4_readBehindOne ∈ wsL_law := sg_33 _ (List.mem_of_getElem? (i := 19) rfl)
theorem tw_788 : Cond.code yX4_readBehindOne cX4_readBehindOne 2 (some .boolean) ∈ wsL_law := sg_33 _ (List.mem_of_getElem? (i := 20) rfl)
theorem dX4_readEither_74 : decode cX4_readEither 74 = .ok (.invokevirtual 125, 3) := oc_182 (a := 0) (b := 125) (by decide +kernel)
theorem dX4_readEither_77 : decode cX4_readEither 77 = .ok (.istore_n 1, 1) := oc_60 (by decide +kernel)
theorem dX4_readEither_78 : decode cX4_readEither 78 = .ok (.iinc 2 1, 3) := oc_132 (b := 1) (by decide +kernel)
theorem dX4_readEither_81 : decode cX4_readEither 81 = .ok (.goto (-47), 3) := oc_167 (a := 255) (b := 209) (by decide +kernel)
theorem dX4_readEither_66 : decode cX4_readEither 66 = .ok (.aload_n 0, 1) := oc_42 (by decide +kernel)
theorem tw_764 : Cond.methodLink RX4 121 yX4_readOne ∈ wsL_law := sg_32 _ (List.mem_of_getElem? (i := 20) rfl)
theorem tw_765 : Cond.instanceMethod yX4_readOne ∈ wsL_law := sg_32 _ (List.mem_of_getElem? (i := 21) rfl)
theorem tw_766 : Cond.selects RX4 yX4_readOne yX4_readOne ∈ wsL_law := sg_32 _ (List.mem_of_getElem? (i := 22) rfl)
theorem tw_767 : Cond.code yX4_readOne cX4_readOne 2 (some .boolean) ∈ wsL_law := sg_32 _ (List.mem_of_getElem? (i := 23) rfl)
theorem dX4_readEither_67 : decode cX4_readEither 67 = .ok (.invokevirtual 121, 3) := oc_182 (a := 0) (b := 121) (by decide +kernel)
theorem dX4_readEither_70 : decode cX4_readEither 70 = .ok (.goto 7, 3) := oc_167 (a := 0) (b := 7) (by decide +kernel)
theorem dX4_mostOf_0 : decode cX4_mostOf 0 = .ok (.iload_n 0, 1) := oc_26 (by decide +kernel)
theorem dX4_mostOf_1 : decode cX4_mostOf 1 = .ok (.lookupswitch 34 #[(6, 27), (7, 30)], 27) := by decide +kernel
theorem dX4_mostOf_28 : decode cX4_mostOf 28 = .ok (.bipush 100, 2) := oc_16 (a := 100) (by decide +kernel)
theorem dX4_mostOf_30 : decode cX4_mostOf 30 = .ok (.ireturn, 1) := oc_172 (by decide +kernel)
theorem dX4_mostOf_31 : decode cX4_mostOf 31 = .ok (.sipush 599, 3) := oc_17 (a := 2) (b := 87) (by decide +kernel)
theorem dX4_mostOf_34 : decode cX4_mostOf 34 = .ok (.ireturn, 1) := oc_172 (by decide +kernel)
theorem dX4_mostOf_35 : decode cX4_mostOf 35 = .ok (.sipush 1000, 3) := oc_17 (a := 3) (b := 232) (by decide +kernel)
theorem dX4_mostOf_38 : decode cX4_mostOf 38 = .ok (.ireturn, 1) := oc_172 (by decide +kernel)
theorem dX4_expectSemicolon_0 : decode cX4_expectSemicolon 0 = .ok (.aload_n 0, 1) := oc_42 (by decide +kernel)
theorem dX4_expectSemicolon_1 : decode cX4_expectSemicolon 1 = .ok (.getfield 12, 3) := oc_180 (a := 0) (b := 12) (by decide +kernel)
theorem dX4_expectSemicolon_4 : decode cX4_expectSemicolon 4 = .ok (.getfield 45, 3) := oc_180 (a := 0) (b := 45) (by decide +kernel)
theorem dX4_expectSemicolon_7 : decode cX4_expectSemicolon 7 = .ok (.bipush 32, 2) := oc_16 (a := 32) (by decide +kernel)
theorem dX4_expectSemicolon_9 : decode cX4_expectSemicolon 9 = .ok (.if_icmp .eq 8, 3) := oc_159 (a := 0) (b := 8) (by decide +kernel)
theorem dX4_expectSemicolon_17 : decode cX4_expectSemicolon 17 = .ok (.return_, 1) := oc_177 (by decide +kernel)
theorem dX4_expectSemicolon_12 : decode cX4_expectSemicolon 12 = .ok (.aload_n 0, 1) := oc_42 (by decide +kernel)
theorem dX4_expectSemicolon_13 : decode cX4_expectSemicolon 13 = .ok (.iconst 1, 1) := oc_4 (by decide +kernel)
theorem dX4_expectSemicolon_14 : decode cX4_expectSemicolon 14 = .ok (.invokevirtual 57, 3) := oc_182 (a := 0) (b := 57) (by decide +kernel)
theorem dX4_readNumber_0 : decode cX4_readNumber 0 = .ok (.aload_n 0, 1) := oc_42 (by decide +kernel)
theorem dX4_readNumber_1 : decode cX4_readNumber 1 = .ok (.getfield 12, 3) := oc_180 (a := 0) (b := 12) (by decide +kernel)
theorem dX4_readNumber_4 : decode cX4_readNumber 4 = .ok (.invokevirtual 42, 3) := oc_182 (a := 0) (b := 42) (by decide +kernel)
theorem dX4_readNumber_7 : decode cX4_readNumber 7 = .ok (.aload_n 0, 1) := oc_42 (by decide +kernel)
theorem dX4_readNumber_8 : decode cX4_readNumber 8 = .ok (.getfield 12, 3) := oc_180 (a := 0) (b := 12) (by decide +kernel)
theorem dX4_readNumber_11 : decode cX4_readNumber 11 = .ok (.getfield 45, 3) := oc_180 (a := 0) (b := 45) (by decide +kernel)
theorem dX4_readNumber_14 : decode cX4_readNumber 14 = .ok (.bipush 18, 2) := oc_16 (a := 18) (by decide +kernel)
theorem dX4_readNumber_16 : decode cX4_readNumber 16 = .ok (.if_icmp .eq 11, 3) := oc_159 (a := 0) (b := 11) (by decide +kernel)
theorem dX4_readNumber_27 : decode cX4_readNumber 27 = .ok (.aload_n 0, 1) := oc_42 (by decide +kernel)
theorem dX4_readNumber_28 : decode cX4_readNumber 28 = .ok (.getfield 12, 3) := oc_180 (a := 0) (b := 12) (by decide +kernel)
theorem dX4_readNumber_31 : decode cX4_readNumber 31 = .ok (.getfield 86, 3) := oc_180 (a := 0) (b := 86) (by decide +kernel)
theorem dX4_readNumber_34 : decode cX4_readNumber 34 = .ok (.iload_n 1, 1) := oc_27 (by decide +kernel)
theorem dX4_readNumber_35 : decode cX4_readNumber 35 = .ok (.if_icmp .le 11, 3) := oc_164 (a := 0) (b := 11) (by decide +kernel)
theorem dX4_readNumber_46 : decode cX4_readNumber 46 = .ok (.aload_n 0, 1) := oc_42 (by decide +kernel)
theorem dX4_readNumber_47 : decode cX4_readNumber 47 = .ok (.aload_n 0, 1) := oc_42 (by decide +kernel)
theorem dX4_readNumber_48 : decode cX4_readNumber 48 = .ok (.getfield 12, 3) := oc_180 (a := 0) (b := 12) (by decide +kernel)
theorem dX4_readNumber_51 : decode cX4_readNumber 51 = .ok (.getfield 86, 3) := oc_180 (a := 0) (b := 86) (by decide +kernel)
theorem dX4_readNumber_54 : decode cX4_readNumber 54 = .ok (.invokevirtual 89, 3) := oc_182 (a := 0) (b := 89) (by decide +kernel)
theorem dX4_readNumber_57 : decode cX4_readNumber 57 = .ok (.aload_n 0, 1) := oc_42 (by decide +kernel)
theorem dX4_readNumber_58 : decode cX4_readNumber 58 = .ok (.getfield 12, 3) := oc_180 (a := 0) (b := 12) (by decide +kernel)
theorem dX4_readNumber_61 : decode cX4_readNumber 61 = .ok (.invokevirtual 42, 3) := oc_182 (a := 0) (b := 42) (by decide +kernel)
theorem dX4_readNumber_64 : decode cX4_readNumber 64 = .ok (.aload_n 0, 1) := oc_42 (by decide +kernel)
theorem tw_805 : Cond.methodLink RX4 92 yX4_expectSemicolon ∈ wsL_law := sg_34 _ (List.mem_of_getElem? (i := 13) rfl)
theorem tw_806 : Cond.instanceMethod yX4_expectSemicolon ∈ wsL_law := sg_34 _ (List.mem_of_getElem? (i := 14) rfl)
theorem tw_807 : Cond.selects RX4 yX4_expectSemicolon yX4_expectSemicolon ∈ wsL_law := sg_34 _ (List.mem_of_getElem? (i := 15) rfl)
theorem tw_808 : Cond.code yX4_expectSemicolon cX4_expectSemicolon 1 none ∈ wsL_law := sg_34 _ (List.mem_of_getElem? (i := 16) rfl)
theorem dX4_readNumber_65 : decode cX4_readNumber 65 = .ok (.invokevirtual 92, 3) := oc_182 (a := 0) (b := 92) (by decide +kernel)
theorem dX4_readNumber_68 : decode cX4_readNumber 68 = .ok (.return_, 1) := oc_177 (by decide +kernel)
theorem dX4_readNumber_38 : decode cX4_readNumber 38 = .ok (.aload_n 0, 1) := oc_42 (by decide +kernel)
theorem dX4_readNumber_39 : decode cX4_readNumber 39 = .ok (.iconst 2, 1) := oc_5 (by decide +kernel)
theorem dX4_readNumber_40 : decode cX4_readNumber 40 = .ok (.invokevirtual 57, 3) := oc_182 (a := 0) (b := 57) (by decide +kernel)
theorem dX4_readNumber_43 : decode cX4_readNumber 43 = .ok (.goto 25, 3) := oc_167 (a := 0) (b := 25) (by decide +kernel)
theorem dX4_readNumber_19 : decode cX4_readNumber 19 = .ok (.aload_n 0, 1) := oc_42 (by decide +kernel)
theorem dX4_readNumber_20 : decode cX4_readNumber 20 = .ok (.iconst 1, 1) := oc_4 (by decide +kernel)
theorem dX4_readNumber_21 : decode cX4_readNumber 21 = .ok (.invokevirtual 57, 3) := oc_182 (a := 0) (b := 57) (by decide +kernel)
theorem dX4_readNumber_24 : decode cX4_readNumber 24 = .ok (.goto 44, 3) := oc_167 (a := 0) (b := 44) (by decide +kernel)
theorem dX4_readKey_0 : decode cX4_readKey 0 = .ok (.aload_n 0, 1) := oc_42 (by decide +kernel)
theorem dX4_readKey_1 : decode cX4_readKey 1 = .ok (.getfield 12, 3) := oc_180 (a := 0) (b := 12) (by decide +kernel)
theorem dX4_readKey_4 : decode cX4_readKey 4 = .ok (.getfield 45, 3) := oc_180 (a := 0) (b := 45) (by decide +kernel)
theorem dX4_readKey_7 : decode cX4_readKey 7 = .ok (.bipush 26, 2) := oc_16 (a := 26) (by decide +kernel)
theorem dX4_readKey_9 : decode cX4_readKey 9 = .ok (.if_icmp .ne 7, 3) := oc_160 (a := 0) (b := 7) (by decide +kernel)
theorem dX4_readKey_16 : decode cX4_readKey 16 = .ok (.iconst 0, 1) := oc_3 (by decide +kernel)
theorem dX4_readKey_17 : decode cX4_readKey 17 = .ok (.istore_n 2, 1) := oc_61 (by decide +kernel)
theorem dX4_readKey_18 : decode cX4_readKey 18 = .ok (.iload_n 2, 1) := oc_28 (by decide +kernel)
theorem dX4_readKey_19 : decode cX4_readKey 19 = .ok (.ifCond .ne 24, 3) := oc_154 (a := 0) (b := 24) (by decide +kernel)
theorem dX4_readKey_22 : decode cX4_readKey 22 = .ok (.aload_n 0, 1) := oc_42 (by decide +kernel)
theorem dX4_readKey_23 : decode cX4_readKey 23 = .ok (.getfield 12, 3) := oc_180 (a := 0) (b := 12) (by decide +kernel)
theorem dX4_readKey_26 : decode cX4_readKey 26 = .ok (.getfield 45, 3) := oc_180 (a := 0) (b := 45) (by decide +kernel)
theorem dX4_readKey_29 : decode cX4_readKey 29 = .ok (.invokestatic 98, 3) := oc_184 (a := 0) (b := 98) (by decide +kernel)
theorem dX4_readKey_32 : decode cX4_readKey 32 = .ok (.ifCond .ne 11, 3) := oc_154 (a := 0) (b := 11) (by decide +kernel)
theorem dX4_readKey_43 : decode cX4_readKey 43 = .ok (.iload_n 1, 1) := oc_27 (by decide +kernel)
theorem dX4_readKey_44 : decode cX4_readKey 44 = .ok (.iconst 4, 1) := oc_7 (by decide +kernel)
theorem dX4_readKey_45 : decode cX4_readKey 45 = .ok (.if_icmp .lt 11, 3) := oc_161 (a := 0) (b := 11) (by decide +kernel)
theorem dX4_readKey_56 : decode cX4_readKey 56 = .ok (.iload_n 2, 1) := oc_28 (by decide +kernel)
theorem dX4_readKey_57 : decode cX4_readKey 57 = .ok (.ifCond .eq 28, 3) := oc_153 (a := 0) (b := 28) (by decide +kernel)
theorem dX4_readKey_85 : decode cX4_readKey 85 = .ok (.aload_n 0, 1) := oc_42 (by decide +kernel)
theorem dX4_readKey_86 : decode cX4_readKey 86 = .ok (.iload_n 2, 1) := oc_28 (by decide +kernel)
theorem dX4_readKey_87 : decode cX4_readKey 87 = .ok (.ifCond .eq 14, 3) := oc_153 (a := 0) (b := 14) (by decide +kernel)
theorem dX4_readKey_101 : decode cX4_readKey 101 = .ok (.aload_n 0, 1) := oc_42 (by decide +kernel)
theorem dX4_readKey_102 : decode cX4_readKey 102 = .ok (.getfield 12, 3) := oc_180 (a := 0) (b := 12) (by decide +kernel)
theorem dX4_readKey_105 : decode cX4_readKey 105 = .ok (.getfield 45, 3) := oc_180 (a := 0) (b := 45) (by decide +kernel)
theorem dX4_readKey_108 : decode cX4_readKey 108 = .ok (.invokevirtual 89, 3) := oc_182 (a := 0) (b := 89) (by decide +kernel)
theorem dX4_readKey_111 : decode cX4_readKey 111 = .ok (.return_, 1) := oc_177 (by decide +kernel)
theorem dX4_readKey_48 : decode cX4_readKey 48 = .ok (.aload_n 0, 1) := oc_42 (by decide +kernel)
theorem dX4_readKey_49 : decode cX4_readKey 49 = .ok (.iconst 5, 1) := oc_8 (by decide +kernel)
theorem dX4_readKey_50 : decode cX4_readKey 50 = .ok (.invokevirtual 57, 3) := oc_182 (a := 0) (b := 57) (by decide +kernel)
theorem dX4_readKey_53 : decode cX4_readKey 53 = .ok (.goto 32, 3) := oc_167 (a := 0) (b := 32) (by decide +kernel)
theorem dX4_readKey_35 : decode cX4_readKey 35 = .ok (.aload_n 0, 1) := oc_42 (by decide +kernel)
theorem dX4_readKey_36 : decode cX4_readKey 36 = .ok (.iconst 1, 1) := oc_4 (by decide +kernel)
theorem dX4_readKey_37 : decode cX4_readKey 37 = .ok (.invokevirtual 57, 3) := oc_182 (a := 0) (b := 57) (by decide +kernel)
theorem dX4_readKey_40 : decode cX4_readKey 40 = .ok (.goto 45, 3) := oc_167 (a := 0) (b := 45) (by decide +kernel)
theorem dX4_readKey_12 : decode cX4_readKey 12 = .ok (.iconst 1, 1) := oc_4 (by decide +kernel)
theorem dX4_readKey_13 : decode cX4_readKey 13 = .ok (.goto 4, 3) := oc_167 (a := 0) (b := 4) (by decide +kernel)
theorem dX4_readKey_60 : decode cX4_readKey 60 = .ok (.aload_n 0, 1) := oc_42 (by decide +kernel)
theorem dX4_readKey_61 : decode cX4_readKey 61 = .ok (.getfield 12, 3) := oc_180 (a := 0) (b := 12) (by decide +kernel)
theorem dX4_readKey_64 : decode cX4_readKey 64 = .ok (.invokevirtual 42, 3) := oc_182 (a := 0) (b := 42) (by decide +kernel)
theorem dX4_readKey_67 : decode cX4_readKey 67 = .ok (.aload_n 0, 1) := oc_42 (by decide +kernel)
theorem dX4_readKey_68 : decode cX4_readKey 68 = .ok (.getfield 12, 3) := oc_180 (a := 0) (b := 12) (by decide +kernel)
theorem dX4_readKey_71 : decode cX4_readKey 71 = .ok (.getfield 45, 3) := oc_180 (a := 0) (b := 45) (by decide +kernel)
theorem dX4_readKey_74 : decode cX4_readKey 74 = .ok (.invokestatic 98, 3) := oc_184 (a := 0) (b := 98) (by decide +kernel)
theorem dX4_readKey_77 : decode cX4_readKey 77 = .ok (.ifCond .ne 8, 3) := oc_154 (a := 0) (b := 8) (by decide +kernel)
theorem dX4_readKey_90 : decode cX4_readKey 90 = .ok (.aload_n 0, 1) := oc_42 (by decide +kernel)
theorem dX4_readKey_91 : decode cX4_readKey 91 = .ok (.getfield 12, 3) := oc_180 (a := 0) (b := 12) (by decide +kernel)
theorem dX4_readKey_94 : decode cX4_readKey 94 = .ok (.getfield 45, 3) := oc_180 (a := 0) (b := 45) (by decide +kernel)
theorem dX4_readKey_97 : decode cX4_readKey 97 = .ok (.ineg, 1) := oc_116 (by decide +kernel)
theorem dX4_readKey_98 : decode cX4_readKey 98 = .ok (.goto 10, 3) := oc_167 (a := 0) (b := 10) (by decide +kernel)
theorem dX4_readKey_80 : decode cX4_readKey 80 = .ok (.aload_n 0, 1) := oc_42 (by decide +kernel)
theorem dX4_readKey_81 : decode cX4_readKey 81 = .ok (.iconst 1, 1) := oc_4 (by decide +kernel)
theorem dX4_readKey_82 : decode cX4_readKey 82 = .ok (.invokevirtual 57, 3) := oc_182 (a := 0) (b := 57) (by decide +kernel)
theorem dX4_readKeys_0 : decode cX4_readKeys 0 = .ok (.iconst 0, 1) := oc_3 (by decide +kernel)
theorem dX4_readKeys_1 : decode cX4_readKeys 1 = .ok (.istore_n 1, 1) := oc_60 (by decide +kernel)
theorem dX4_readKeys_2 : decode cX4_readKeys 2 = .ok (.iconst 1, 1) := oc_4 (by decide +kernel)
theorem dX4_readKeys_3 : decode cX4_readKeys 3 = .ok (.istore_n 2, 1) := oc_61 (by decide +kernel)
theorem dX4_readKeys_4 : decode cX4_readKeys 4 = .ok (.iload_n 2, 1) := oc_28 (by decide +kernel)
theorem dX4_readKeys_5 : decode cX4_readKeys 5 = .ok (.ifCond .eq 65, 3) := oc_153 (a := 0) (b := 65) (by decide +kernel)
theorem dX4_readKeys_70 : decode cX4_readKeys 70 = .ok (.aload_n 0, 1) := oc_42 (by decide +kernel)
theorem dX4_readKeys_71 : decode cX4_readKeys 71 = .ok (.invokevirtual 92, 3) := oc_182 (a := 0) (b := 92) (by decide +kernel)
theorem dX4_readKeys_74 : decode cX4_readKeys 74 = .ok (.return_, 1) := oc_177 (by decide +kernel)
theorem dX4_readKeys_8 : decode cX4_readKeys 8 = .ok (.iload_n 1, 1) := oc_27 (by decide +kernel)
theorem dX4_readKeys_9 : decode cX4_readKeys 9 = .ok (.iconst 4, 1) := oc_7 (by decide +kernel)
theorem dX4_readKeys_10 : decode cX4_readKeys 10 = .ok (.if_icmp .gt 60, 3) := oc_163 (a := 0) (b := 60) (by decide +kernel)
theorem dX4_readKeys_13 : decode cX4_readKeys 13 = .ok (.aload_n 0, 1) := oc_42 (by decide +kernel)
theorem dX4_readKeys_14 : decode cX4_readKeys 14 = .ok (.getfield 18, 3) := oc_180 (a := 0) (b := 18) (by decide +kernel)
theorem dX4_readKeys_17 : decode cX4_readKeys 17 = .ok (.ifCond .ne 53, 3) := oc_154 (a := 0) (b := 53) (by decide +kernel)
theorem dX4_readKeys_20 : decode cX4_readKeys 20 = .ok (.aload_n 0, 1) := oc_42 (by decide +kernel)
theorem dX4_readKeys_21 : decode cX4_readKeys 21 = .ok (.getfield 12, 3) := oc_180 (a := 0) (b := 12) (by decide +kernel)
theorem dX4_readKeys_24 : decode cX4_readKeys 24 = .ok (.invokevirtual 42, 3) := oc_182 (a := 0) (b := 42) (by decide +kernel)
theorem dX4_readKeys_27 : decode cX4_readKeys 27 = .ok (.aload_n 0, 1) := oc_42 (by decide +kernel)
theorem dX4_readKeys_28 : decode cX4_readKeys 28 = .ok (.iload_n 1, 1) := oc_27 (by decide +kernel)
theorem tw_801 : Cond.methodLink RX4 95 yX4_readKey ∈ wsL_law := sg_34 _ (List.mem_of_getElem? (i := 9) rfl)
theorem tw_802 : Cond.instanceMethod yX4_readKey ∈ wsL_law := sg_34 _ (List.mem_of_getElem? (i := 10) rfl)
theorem tw_803 : Cond.selects RX4 yX4_readKey yX4_readKey ∈ wsL_law := sg_34 _ (List.mem_of_getElem? (i := 11) rfl)
theorem tw_804 : Cond.code yX4_readKey cX4_readKey 3 none ∈ wsL_law := sg_34 _ (List.mem_of_getElem? (i := 12) rfl)
theorem dX4_readKeys_29 : decode cX4_readKeys 29 = .ok (.invokevirtual 95, 3) := oc_182 (a := 0) (b := 95) (by decide +kernel)
theorem dX4_readKeys_32 : decode cX4_readKeys 32 = .ok (.iinc 1 1, 3) := oc_132 (b := 1) (by decide +kernel)
theorem dX4_readKeys_35 : decode cX4_readKeys 35 = .ok (.aload_n 0, 1) := oc_42 (by decide +kernel)
theorem dX4_readKeys_36 : decode cX4_readKeys 36 = .ok (.getfield 18, 3) := oc_180 (a := 0) (b := 18) (by decide +kernel)
theorem dX4_readKeys_39 : decode cX4_readKeys 39 = .ok (.ifCond .ne 10, 3) := oc_154 (a := 0) (b := 10) (by decide +kernel)
theorem dX4_readKeys_49 : decode cX4_readKeys 49 = .ok (.aload_n 0, 1) := oc_42 (by decide +kernel)
theorem dX4_readKeys_50 : decode cX4_readKeys 50 = .ok (.getfield 12, 3) := oc_180 (a := 0) (b := 12) (by decide +kernel)
theorem dX4_readKeys_53 : decode cX4_readKeys 53 = .ok (.getfield 45, 3) := oc_180 (a := 0) (b := 45) (by decide +kernel)
theorem dX4_readKeys_56 : decode cX4_readKeys 56 = .ok (.bipush 31, 2) := oc_16 (a := 31) (by decide +kernel)
theorem dX4_readKeys_58 : decode cX4_readKeys 58 = .ok (.if_icmp .ne 7, 3) := oc_160 (a := 0) (b := 7) (by decide +kernel)
theorem dX4_readKeys_65 : decode cX4_readKeys 65 = .ok (.iconst 0, 1) := oc_3 (by decide +kernel)
theorem dX4_readKeys_66 : decode cX4_readKeys 66 = .ok (.istore_n 2, 1) := oc_61 (by decide +kernel)
theorem dX4_readKeys_67 : decode cX4_readKeys 67 = .ok (.goto (-63), 3) := oc_167 (a := 255) (b := 193) (by decide +kernel)
theorem dX4_readKeys_61 : decode cX4_readKeys 61 = .ok (.iconst 1, 1) := oc_4 (by decide +kernel)
theorem dX4_readKeys_62 : decode cX4_readKeys 62 = .ok (.goto 4, 3) := oc_167 (a := 0) (b := 4) (by decide +kernel)
theorem dX4_readKeys_42 : decode cX4_readKeys 42 = .ok (.aload_n 0, 1) := oc_42 (by decide +kernel)
theorem dX4_readKeys_43 : decode cX4_readKeys 43 = .ok (.getfield 12, 3) := oc_180 (a := 0) (b := 12) (by decide +kernel)
theorem dX4_readKeys_46 : decode cX4_readKeys 46 = .ok (.invokevirtual 42, 3) := oc_182 (a := 0) (b := 42) (by decide +kernel)
theorem dX4_readClause_0 : decode cX4_readClause 0 = .ok (.aload_n 0, 1) := oc_42 (by decide +kernel)
theorem dX4_readClause_1 : decode cX4_readClause 1 = .ok (.getfield 12, 3) := oc_180 (a := 0) (b := 12) (by decide +kernel)
theorem dX4_readClause_4 : decode cX4_readClause 4 = .ok (.getfield 45, 3) := oc_180 (a := 0) (b := 45) (by decide +kernel)
theorem dX4_readClause_7 : decode cX4_readClause 7 = .ok (.istore_n 1, 1) := oc_60 (by decide +kernel)
theorem dX4_readClause_8 : decode cX4_readClause 8 = .ok (.iload_n 1, 1) := oc_27 (by decide +kernel)
theorem dX4_readClause_9 : decode cX4_readClause 9 = .ok (.bipush 8, 2) := oc_16 (a := 8) (by decide +kernel)
theorem dX4_readClause_11 : decode cX4_readClause 11 = .ok (.if_icmp .le 11, 3) := oc_164 (a := 0) (b := 11) (by decide +kernel)
theorem dX4_readClause_22 : decode cX4_readClause 22 = .ok (.iload_n 1, 1) := oc_27 (by decide +kernel)
theorem dX4_readClause_23 : decode cX4_readClause 23 = .ok (.iconst 4, 1) := oc_7 (by decide +kernel)
theorem dX4_readClause_24 : decode cX4_readClause 24 = .ok (.if_icmp .lt 23, 3) := oc_161 (a := 0) (b := 23) (by decide +kernel)
theorem dX4_readClause_47 : decode cX4_readClause 47 = .ok (.aload_n 0, 1) := oc_42 (by decide +kernel)
theorem dX4_readClause_48 : decode cX4_readClause 48 = .ok (.getfield 28, 3) := oc_180 (a := 0) (b := 28) (by decide +kernel)
theorem tw_745 : Cond.fieldLink RX4 65 "RingsUnder$Text" "clauses" "I" ∈ wsL_law := sg_32 _ (List.mem_of_getElem? (i := 1) rfl)
theorem dX4_readClause_51 : decode cX4_readClause 51 = .ok (.getfield 65, 3) := oc_180 (a := 0) (b := 65) (by decide +kernel)
theorem dX4_readClause_54 : decode cX4_readClause 54 = .ok (.bipush 20, 2) := oc_16 (a := 20) (by decide +kernel)
theorem dX4_readClause_56 : decode cX4_readClause 56 = .ok (.if_icmp .lt 11, 3) := oc_161 (a := 0) (b := 11) (by decide +kernel)
theorem dX4_readClause_67 : decode cX4_readClause 67 = .ok (.aload_n 0, 1) := oc_42 (by decide +kernel)
theorem dX4_readClause_68 : decode cX4_readClause 68 = .ok (.getfield 28, 3) := oc_180 (a := 0) (b := 28) (by decide +kernel)
theorem tw_746 : Cond.fieldLink RX4 68 "RingsUnder$Text" "sorts" "[I" ∈ wsL_law := sg_32 _ (List.mem_of_getElem? (i := 2) rfl)
theorem dX4_readClause_71 : decode cX4_readClause 71 = .ok (.getfield 68, 3) := oc_180 (a := 0) (b := 68) (by decide +kernel)
theorem dX4_readClause_74 : decode cX4_readClause 74 = .ok (.aload_n 0, 1) := oc_42 (by decide +kernel)
theorem dX4_readClause_75 : decode cX4_readClause 75 = .ok (.getfield 28, 3) := oc_180 (a := 0) (b := 28) (by decide +kernel)
theorem dX4_readClause_78 : decode cX4_readClause 78 = .ok (.getfield 65, 3) := oc_180 (a := 0) (b := 65) (by decide +kernel)
theorem dX4_readClause_81 : decode cX4_readClause 81 = .ok (.iload_n 1, 1) := oc_27 (by decide +kernel)
theorem dX4_readClause_82 : decode cX4_readClause 82 = .ok (.iastore, 1) := oc_79 (by decide +kernel)
theorem dX4_readClause_83 : decode cX4_readClause 83 = .ok (.aload_n 0, 1) := oc_42 (by decide +kernel)
theorem dX4_readClause_84 : decode cX4_readClause 84 = .ok (.getfield 28, 3) := oc_180 (a := 0) (b := 28) (by decide +kernel)
theorem dX4_readClause_87 : decode cX4_readClause 87 = .ok (.dup, 1) := oc_89 (by decide +kernel)
theorem dX4_readClause_88 : decode cX4_readClause 88 = .ok (.getfield 65, 3) := oc_180 (a := 0) (b := 65) (by decide +kernel)
theorem dX4_readClause_91 : decode cX4_readClause 91 = .ok (.iconst 1, 1) := oc_4 (by decide +kernel)
theorem dX4_readClause_92 : decode cX4_readClause 92 = .ok (.iadd, 1) := oc_96 (by decide +kernel)
theorem dX4_readClause_93 : decode cX4_readClause 93 = .ok (.putfield 65, 3) := oc_181 (a := 0) (b := 65) (by decide +kernel)
theorem dX4_readClause_96 : decode cX4_readClause 96 = .ok (.iload_n 1, 1) := oc_27 (by decide +kernel)
theorem dX4_readClause_97 : decode cX4_readClause 97 = .ok (.iconst 4, 1) := oc_7 (by decide +kernel)
theorem dX4_readClause_98 : decode cX4_readClause 98 = .ok (.if_icmp .ge 10, 3) := oc_162 (a := 0) (b := 10) (by decide +kernel)
theorem dX4_readClause_101 : decode cX4_readClause 101 = .ok (.aload_n 0, 1) := oc_42 (by decide +kernel)
theorem tw_754 : Cond.methodLink RX4 71 yX4_readEither ∈ wsL_law := sg_32 _ (List.mem_of_getElem? (i := 10) rfl)
theorem tw_755 : Cond.instanceMethod yX4_readEither ∈ wsL_law := sg_32 _ (List.mem_of_getElem? (i := 11) rfl)
theorem tw_756 : Cond.selects RX4 yX4_readEither yX4_readEither ∈ wsL_law := sg_32 _ (List.mem_of_getElem? (i := 12) rfl)
theorem tw_757 : Cond.code yX4_readEither cX4_readEither 3 none ∈ wsL_law := sg_32 _ (List.mem_of_getElem? (i := 13) rfl)
theorem dX4_readClause_102 : decode cX4_readClause 102 = .ok (.invokevirtual 71, 3) := oc_182 (a := 0) (b := 71) (by decide +kernel)
theorem dX4_readClause_105 : decode cX4_readClause 105 = .ok (.goto 23, 3) := oc_167 (a := 0) (b := 23) (by decide +kernel)
theorem dX4_readClause_128 : decode cX4_readClause 128 = .ok (.aload_n 0, 1) := oc_42 (by decide +kernel)
theorem dX4_readClause_129 : decode cX4_readClause 129 = .ok (.getfield 28, 3) := oc_180 (a := 0) (b := 28) (by decide +kernel)
theorem tw_747 : Cond.fieldLink RX4 83 "RingsUnder$Text" "from" "[I" ∈ wsL_law := sg_32 _ (List.mem_of_getElem? (i := 3) rfl)
theorem dX4_readClause_132 : decode cX4_readClause 132 = .ok (.getfield 83, 3) := oc_180 (a := 0) (b := 83) (by decide +kernel)
theorem dX4_readClause_135 : decode cX4_readClause 135 = .ok (.aload_n 0, 1) := oc_42 (by decide +kernel)
theorem dX4_readClause_136 : decode cX4_readClause 136 = .ok (.getfield 28, 3) := oc_180 (a := 0) (b := 28) (by decide +kernel)
theorem dX4_readClause_139 : decode cX4_readClause 139 = .ok (.getfield 65, 3) := oc_180 (a := 0) (b := 65) (by decide +kernel)
theorem dX4_readClause_142 : decode cX4_readClause 142 = .ok (.aload_n 0, 1) := oc_42 (by decide +kernel)
theorem dX4_readClause_143 : decode cX4_readClause 143 = .ok (.getfield 36, 3) := oc_180 (a := 0) (b := 36) (by decide +kernel)
theorem dX4_readClause_146 : decode cX4_readClause 146 = .ok (.iastore, 1) := oc_79 (by decide +kernel)
theorem dX4_readClause_147 : decode cX4_readClause 147 = .ok (.return_, 1) := oc_177 (by decide +kernel)
theorem dX4_readClause_59 : decode cX4_readClause 59 = .ok (.aload_n 0, 1) := oc_42 (by decide +kernel)
theorem dX4_readClause_60 : decode cX4_readClause 60 = .ok (.iconst 5, 1) := oc_8 (by decide +kernel)
theorem dX4_readClause_61 : decode cX4_readClause 61 = .ok (.invokevirtual 57, 3) := oc_182 (a := 0) (b := 57) (by decide +kernel)
theorem dX4_readClause_64 : decode cX4_readClause 64 = .ok (.goto 83, 3) := oc_167 (a := 0) (b := 83) (by decide +kernel)
theorem dX4_readClause_27 : decode cX4_readClause 27 = .ok (.aload_n 0, 1) := oc_42 (by decide +kernel)
theorem dX4_readClause_28 : decode cX4_readClause 28 = .ok (.getfield 28, 3) := oc_180 (a := 0) (b := 28) (by decide +kernel)
theorem dX4_readClause_31 : decode cX4_readClause 31 = .ok (.iload_n 1, 1) := oc_27 (by decide +kernel)
theorem tw_753 : Cond.methodLink RX4 61 yX8_firstOf ∈ wsL_law := sg_32 _ (List.mem_of_getElem? (i := 9) rfl)
theorem dX4_readClause_32 : decode cX4_readClause 32 = .ok (.invokevirtual 61, 3) := oc_182 (a := 0) (b := 61) (by decide +kernel)
theorem dX4_readClause_35 : decode cX4_readClause 35 = .ok (.iconst (-1), 1) := oc_2 (by decide +kernel)
theorem dX4_readClause_36 : decode cX4_readClause 36 = .ok (.if_icmp .eq 11, 3) := oc_159 (a := 0) (b := 11) (by decide +kernel)
theorem dX4_readClause_108 : decode cX4_readClause 108 = .ok (.iload_n 1, 1) := oc_27 (by decide +kernel)
theorem dX4_readClause_109 : decode cX4_readClause 109 = .ok (.iconst 5, 1) := oc_8 (by decide +kernel)
theorem dX4_readClause_110 : decode cX4_readClause 110 = .ok (.if_icmp .gt 10, 3) := oc_163 (a := 0) (b := 10) (by decide +kernel)
theorem dX4_readClause_120 : decode cX4_readClause 120 = .ok (.aload_n 0, 1) := oc_42 (by decide +kernel)
theorem dX4_readClause_121 : decode cX4_readClause 121 = .ok (.iload_n 1, 1) := oc_27 (by decide +kernel)
theorem tw_809 : Cond.methodLink RX4 77 yX4_mostOf ∈ wsL_law := sg_34 _ (List.mem_of_getElem? (i := 17) rfl)
theorem tw_810 : Cond.static yX4_mostOf ∈ wsL_law := sg_34 _ (List.mem_of_getElem? (i := 18) rfl)
theorem tw_811 : Cond.code yX4_mostOf cX4_mostOf 1 (some .int) ∈ wsL_law := sg_34 _ (List.mem_of_getElem? (i := 19) rfl)
theorem dX4_readClause_122 : decode cX4_readClause 122 = .ok (.invokestatic 77, 3) := oc_184 (a := 0) (b := 77) (by decide +kernel)
theorem tw_812 : Cond.methodLink RX4 80 yX4_readNumber ∈ wsL_law := sg_34 _ (List.mem_of_getElem? (i := 20) rfl)
theorem tw_813 : Cond.instanceMethod yX4_readNumber ∈ wsL_law := sg_34 _ (List.mem_of_getElem? (i := 21) rfl)
theorem tw_814 : Cond.selects RX4 yX4_readNumber yX4_readNumber ∈ wsL_law := sg_34 _ (List.mem_of_getElem? (i := 22) rfl)
theorem tw_815 : Cond.code yX4_readNumber cX4_readNumber 2 none ∈ wsL_law := sg_34 _ (List.mem_of_getElem? (i := 23) rfl)
theorem dX4_readClause_125 : decode cX4_readClause 125 = .ok (.invokevirtual 80, 3) := oc_182 (a := 0) (b := 80) (by decide +kernel)
theorem dX4_readClause_113 : decode cX4_readClause 113 = .ok (.aload_n 0, 1) := oc_42 (by decide +kernel)
theorem tw_797 : Cond.methodLink RX4 74 yX4_readKeys ∈ wsL_law := sg_34 _ (List.mem_of_getElem? (i := 5) rfl)
theorem tw_798 : Cond.instanceMethod yX4_readKeys ∈ wsL_law := sg_34 _ (List.mem_of_getElem? (i := 6) rfl)
theorem tw_799 : Cond.selects RX4 yX4_readKeys yX4_readKeys ∈ wsL_law := sg_34 _ (List.mem_of_getElem? (i := 7) rfl)
theorem tw_800 : Cond.code yX4_readKeys cX4_readKeys 3 none ∈ wsL_law := sg_34 _ (List.mem_of_getElem? (i := 8) rfl)
theorem dX4_readClause_114 : decode cX4_readClause 114 = .ok (.invokevirtual 74, 3) := oc_182 (a := 0) (b := 74) (by decide +kernel)
theorem dX4_readClause_117 : decode cX4_readClause 117 = .ok (.goto 11, 3) := oc_167 (a := 0) (b := 11) (by decide +kernel)
theorem dX4_readClause_39 : decode cX4_readClause 39 = .ok (.aload_n 0, 1) := oc_42 (by decide +kernel)
theorem dX4_readClause_40 : decode cX4_readClause 40 = .ok (.iconst 4, 1) := oc_7 (by decide +kernel)
theorem dX4_readClause_41 : decode cX4_readClause 41 = .ok (.invokevirtual 57, 3) := oc_182 (a := 0) (b := 57) (by decide +kernel)
theorem dX4_readClause_44 : decode cX4_readClause 44 = .ok (.goto 103, 3) := oc_167 (a := 0) (b := 103) (by decide +kernel)
theorem dX4_readClause_14 : decode cX4_readClause 14 = .ok (.aload_n 0, 1) := oc_42 (by decide +kernel)
theorem dX4_readClause_15 : decode cX4_readClause 15 = .ok (.iconst 1, 1) := oc_4 (by decide +kernel)
theorem dX4_readClause_16 : decode cX4_readClause 16 = .ok (.invokevirtual 57, 3) := oc_182 (a := 0) (b := 57) (by decide +kernel)
theorem dX4_readClause_19 : decode cX4_readClause 19 = .ok (.goto 128, 3) := oc_167 (a := 0) (b := 128) (by decide +kernel)
set_option maxHeartbeats 4000000 in
set_option maxRecDepth 100000 in
theorem s_X4_refuse (l : Launch) (D : va_G) (t : pq_T) (σ : pq_S) (I : Nat → Nat → Int32) (J : Nat → Nat → Int64) (ri : Nat → Nat → Int32) (rj : Nat → Nat → Int64) (rq : Nat → Nat → Option Nat) (sz : Nat) (tg : Nat → Nat) (hSH : SH σ tg) (hG0 : GS tg σ I ri rq) (this : Nat) (a0 : Int32) (hL_this : this ∈ σ.1) (hK_this : σ.2.1 this = 4) (h_a0 : rg a0 1 5) : MetV l yX4_refuse (wa yX4_refuse cX4_refuse 2 none) ({ frames := 0, cells := 0, slots := 0, locals := 0 }) [.ref this, .int a0] D t σ (I, J, ri, rj, rq) sz 0 0 (fun (u : pq_S × pq_M) => ∃ I' : Nat → Nat → Int32, u = (σ, I', J, ri, rj, rq) ∧ GX [129] tg σ I ri rj I' ri rj rq ∧ ((I' 129 this).toInt ≠ 0)) := by
  refine Met.ofW (cc := cX4_refuse) (maxL := 2) (ret := none) (by decide) rfl ?_
  intro p e s m args below meth c s₁ B hml hv
  obtain ⟨rfl, hsz, hP, hK, hD0, hN⟩ := hv
  have hx := B.exec
  have hb := B.bytes
  have hr := B.returns
  have hts := atoms_spec (ws := (wa yX4_refuse cX4_refuse 2 none)) B.pre
  have hown : s.vm.findClass RX4 = some m.cls := findClass_of_methodNamed B.named
  have hlocks := B.notSynchronized
  subst hsz
  have hD : va_D (pq_B t σ (I, J, ri, rj, rq) s.heap.size) (pq_P t σ (I, J, ri, rj, rq)) := hD0.self
  generalize hAe : pq_B t σ (I, J, ri, rj, rq) s.heap.size = A at hD ⊢
  have hA : ∀ q : Nat, s.heap.size ≤ q → A q := fun q h => by rw [← hAe]; exact Or.inr h
  have hS : va_S A s.heap s.heap [] := va_S.rf
  have hG : GX [129] tg σ I ri rj I ri rj rq := ⟨hG0, fun _ _ _ => rfl, fun _ _ _ _ _ => rfl, fun _ _ _ _ _ => rfl⟩
  have hl := lv_entry ([.ref this, .int a0]) (n := 2) (Nat.le_of_ble_eq_true rfl)
  rw [lg_entry_eq]
  generalize (lg_sl ([.ref this, .int a0]) ++ List.replicate (2 - (lg_sl ([.ref this, .int a0])).length) Slot.unset).toArray = ls at hl ⊢
  have hl : lv_has ls 2 [(0, .ref this), (1, .int a0)] := hl
  refine q_gen (fun Q hQ => ?_)
  have go : ∀ (H : Heap) (locs : List Loc) (ls : Array Slot), va_P D vwCl (pq_P t σ (I, J, ri, rj, rq)) H → va_D A (pq_P t σ (I, J, ri, rj, rq)) → va_S A s.heap H locs → lv_has ls 2 [(0, .ref this), (1, .int a0)] → W p l e ({ frames := 0, cells := 0, slots := 0, locals := 0 } : Room) s m (List.toArray ([.ref this, .int a0] : List Value)) below meth c H locs 0 0 Q (F0 m 0 ls []) := by
    intro H locs ls hP hD hS hl
    have uh_a0 := h_a0.1
    have vh_a0 := h_a0.2
    refine lv_aload_n hx hb dX4_refuse_0 rfl (lv_at hl 0 rfl) ?_
    refine pg_f (v := .int (I 129 this)) (C := RX4) (T := TX4) (N := 12) hx hb hts (tw_i inlX4) hown hK hP hL_this hK_this (by decide) rfl 1 (by decide) (hts _ (tw_c tw_155)) rfl dX4_refuse_1 ?_
    refine lv_if_ne (tgt := 23) hx hb dX4_refuse_4 (by decide) (fun c_1 => ?_) (fun c_1 => ?_)
    · have tc_2 : (I 129 this).toInt ≠ 0 := fun q => c_1 (Int32.toInt_inj.mp q)
      subst hQ
      exact W.vret hx hb hr (fun t1 ht hW => ⟨⟨(σ, I, J, ri, rj, rq), rfl, ⟨I, rfl, hG, (by omega)⟩, by rw [ht]; exact hP, va_K.moved hW.alike hK, hD⟩, hS.F ht⟩) hS.2.2 dX4_refuse_23
    · have tc_3 : (I 129 this).toInt = 0 := congrArg Int32.toInt c_1
      have h_4 : rg (I 129 this) 0 0 := rg_and (rg_full _) (rg_of_eq c_1 (rg_k (0 : Int32) 0 rfl)) (by decide)
      have uh_4 := h_4.1
      have vh_4 := h_4.2
      refine lv_aload_n hx hb dX4_refuse_7 rfl (lv_at hl 0 rfl) ?_
      refine lv_iload_n hx hb dX4_refuse_8 rfl (lv_at hl 1 rfl) ?_
      refine pp_i (v := a0) (ty := .int) (C := RX4) (T := TX4) (N := 12) hx hb hts (tw_i inlX4) tyX4 tyX4_ok nmX4 hown hK hP hD hS hL_this hK_this (by decide) rfl 1 129 (by decide) (hts _ (tw_c tw_155)) rfl (tyX4_ok 1 (by decide)) rfl rfl (Nat.le_of_ble_eq_true rfl) (ps_129 _ _ _ _ _) dX4_refuse_9 (fun I_5 H locs eI_5 hP hD hS => ?_)
      have hG := GX.wI hG 129 rfl eI_5 (rg_w h_a0 (by decide)) (by decide)
      have tt_6 : (I_5 132 this).toInt = (I 132 this).toInt := by rw [eI_5, pq_uf _ _ _ (by decide)]
      have tt_7 : (I_5 134 this).toInt = (I 134 this).toInt := by rw [eI_5, pq_uf _ _ _ (by decide)]
      have tt_8 : (I_5 129 this).toInt = (a0).toInt := by rw [eI_5, pq_us]
      refine lv_aload_n hx hb dX4_refuse_12 rfl (lv_at hl 0 rfl) ?_
      refine lv_aload_n hx hb dX4_refuse_13 rfl (lv_at hl 0 rfl) ?_
      obtain ⟨w_9, hR_w_9, hL_w_9, hK_w_9⟩ := sh_o hSH 128 (ci := 4) (kd := 6) rfl hL_this hK_this
      refine pg_f (v := .ref w_9) (C := RX4) (T := TX4) (N := 12) hx hb hts (tw_i inlX4) hown hK hP hL_this hK_this (by decide) rfl 0 (by decide) (hts _ (tw_c tw_154)) (pq_hv rfl hR_w_9) dX4_refuse_14 ?_
      refine pg_f (v := .int (I_5 195 w_9)) (C := RX6) (T := TX6) (N := 6) hx hb hts (tw_i inlX6) hown hK hP hL_w_9 hK_w_9 (by decide) rfl 3 (by decide) (hts _ (tw_c tw_752)) rfl dX4_refuse_17 ?_
      have h_10 : rg (I_5 195 w_9) 0 300 := GX.rI hG 195 rfl
      have uh_10 := h_10.1
      have vh_10 := h_10.2
      refine pp_i (v := (I_5 195 w_9)) (ty := .int) (C := RX4) (T := TX4) (N := 12) hx hb hts (tw_i inlX4) tyX4 tyX4_ok nmX4 hown hK hP hD hS hL_this hK_this (by decide) rfl 2 130 (by decide) (hts _ (tw_c tw_156)) rfl (tyX4_ok 2 (by decide)) rfl rfl (Nat.le_of_ble_eq_true rfl) (ps_130 _ _ _ _ _) dX4_refuse_20 (fun I_11 H locs eI_11 hP hD hS => ?_)
      have hG := GX.wI hG 130 rfl eI_11 (rg_w h_10 (by decide)) (by decide)
      have tt_12 : (I_11 132 this).toInt = (I_5 132 this).toInt := by rw [eI_11, pq_uf _ _ _ (by decide)]
      have tt_13 : (I_11 134 this).toInt = (I_5 134 this).toInt := by rw [eI_11, pq_uf _ _ _ (by decide)]
      have tt_14 : (I_11 129 this).toInt = (I_5 129 this).toInt := by rw [eI_11, pq_uf _ _ _ (by decide)]
      subst hQ
      exact W.vret hx hb hr (fun t1 ht hW => ⟨⟨(σ, I_11, J, ri, rj, rq), rfl, ⟨I_11, rfl, hG, (by omega)⟩, by rw [ht]; exact hP, va_K.moved hW.alike hK, hD⟩, hS.F ht⟩) hS.2.2 dX4_refuse_23
  exact go _ _ _ hP hD hS hl

set_option maxHeartbeats 4000000 in
set_option maxRecDepth 100000 in
theorem s_X4_emit (l : Launch) (D : va_G) (t : pq_T) (σ : pq_S) (I : Nat → Nat → Int32) (J : Nat → Nat → Int64) (ri : Nat → Nat → Int32) (rj : Nat → Nat → Int64) (rq : Nat → Nat → Option Nat) (sz : Nat) (tg : Nat → Nat) (hSH : SH σ tg) (hG0 : GS tg σ I ri rq) (this : Nat) (a0 : Int32) (hL_this : this ∈ σ.1) (hK_this : σ.2.1 this = 4) : MetV l yX4_emit (wa yX4_emit cX4_emit 2 none) ({ frames := 0, cells := 0, slots := 0, locals := 0 }) [.ref this, .int a0] D t σ (I, J, ri, rj, rq) sz 0 0 (fun (u : pq_S × pq_M) => ∃ I' : Nat → Nat → Int32, ∃ ri' : Nat → Nat → Int32, u = (σ, I', J, ri', rj, rq) ∧ GX [132] tg σ I ri rj I' ri' rj rq ∧ ((I 132 this).toInt ≤ (I' 132 this).toInt ∧ (I' 132 this).toInt ≤ (I 132 this).toInt + 1) ∧ (∀ q, tg q = 258 → ri' q = ri q)) := by
  refine Met.ofW (cc := cX4_emit) (maxL := 2) (ret := none) (by decide) rfl ?_
  intro p e s m args below meth c s₁ B hml hv
  obtain ⟨rfl, hsz, hP, hK, hD0, hN⟩ := hv
  have hx := B.exec
  have hb := B.bytes
  have hr := B.returns
  have hts := atoms_spec (ws := (wa yX4_emit cX4_emit 2 none)) B.pre
  have hown : s.vm.findClass RX4 = some m.cls := findClass_of_methodNamed B.named
  have hlocks := B.notSynchronized
  subst hsz
  have hD : va_D (pq_B t σ (I, J, ri, rj, rq) s.heap.size) (pq_P t σ (I, J, ri, rj, rq)) := hD0.self
  generalize hAe : pq_B t σ (I, J, ri, rj, rq) s.heap.size = A at hD ⊢
  have hA : ∀ q : Nat, s.heap.size ≤ q → A q := fun q h => by rw [← hAe]; exact Or.inr h
  have hS : va_S A s.heap s.heap [] := va_S.rf
  have hG : GX [132] tg σ I ri rj I ri rj rq := ⟨hG0, fun _ _ _ => rfl, fun _ _ _ _ _ => rfl, fun _ _ _ _ _ => rfl⟩
  have hl := lv_entry ([.ref this, .int a0]) (n := 2) (Nat.le_of_ble_eq_true rfl)
  rw [lg_entry_eq]
  generalize (lg_sl ([.ref this, .int a0]) ++ List.replicate (2 - (lg_sl ([.ref this, .int a0])).length) Slot.unset).toArray = ls at hl ⊢
  have hl : lv_has ls 2 [(0, .ref this), (1, .int a0)] := hl
  refine q_gen (fun Q hQ => ?_)
  have go : ∀ (H : Heap) (locs : List Loc) (ls : Array Slot), va_P D vwCl (pq_P t σ (I, J, ri, rj, rq)) H → va_D A (pq_P t σ (I, J, ri, rj, rq)) → va_S A s.heap H locs → lv_has ls 2 [(0, .ref this), (1, .int a0)] → W p l e ({ frames := 0, cells := 0, slots := 0, locals := 0 } : Room) s m (List.toArray ([.ref this, .int a0] : List Value)) below meth c H locs 0 0 Q (F0 m 0 ls []) := by
    intro H locs ls hP hD hS hl
    refine lv_aload_n hx hb dX4_emit_0 rfl (lv_at hl 0 rfl) ?_
    refine pg_f (v := .int (I 132 this)) (C := RX4) (T := TX4) (N := 12) hx hb hts (tw_i inlX4) hown hK hP hL_this hK_this (by decide) rfl 4 (by decide) (hts _ (tw_c tw_656)) rfl dX4_emit_1 ?_
    have h_1 : rg (I 132 this) 0 300 := GX.rI hG 132 rfl
    have uh_1 := h_1.1
    have vh_1 := h_1.2
    refine lv_sipush (v := 300) hx hb dX4_emit_4 (by decide) ?_
    refine lv_icmp_ge (tgt := 33) hx hb dX4_emit_7 (by decide) (fun c_2 => ?_) (fun c_2 => ?_)
    · have tc_3 : 300 ≤ (I 132 this).toInt := Int32.le_iff_toInt_le.mp c_2
      have h_4 : rg (I 132 this) 300 300 := rg_le2 c_2 (rg_k (300 : Int32) 300 rfl) h_1 (by decide)
      have uh_4 := h_4.1
      have vh_4 := h_4.2
      subst hQ
      exact W.vret hx hb hr (fun t1 ht hW => ⟨⟨(σ, I, J, ri, rj, rq), rfl, ⟨I, ri, rfl, hG, (by omega), (fun _ _ => rfl)⟩, by rw [ht]; exact hP, va_K.moved hW.alike hK, hD⟩, hS.F ht⟩) hS.2.2 dX4_emit_33
    · have tc_5 : (I 132 this).toInt < 300 := Int32.lt_iff_toInt_lt.mp (nle c_2)
      have h_6 : rg (I 132 this) 0 299 := rg_lt1 (nle c_2) h_1 (rg_k (300 : Int32) 300 rfl) (by decide)
      have uh_6 := h_6.1
      have vh_6 := h_6.2
      refine lv_aload_n hx hb dX4_emit_10 rfl (lv_at hl 0 rfl) ?_
      obtain ⟨w_7, hR_w_7, hL_w_7, hK_w_7⟩ := sh_o hSH 131 (ci := 4) (kd := 8) rfl hL_this hK_this
      refine pg_f (v := .ref w_7) (C := RX4) (T := TX4) (N := 12) hx hb hts (tw_i inlX4) hown hK hP hL_this hK_this (by decide) rfl 3 (by decide) (hts _ (tw_c tw_160)) (pq_hv rfl hR_w_7) dX4_emit_11 ?_
      obtain ⟨w_8, hR_w_8, hL_w_8, hK_w_8, hN_w_8, hT_w_8⟩ := sh_a hSH 259 (ci := 8) (kd := 13) (len := 300) rfl (by decide) hL_w_7 hK_w_7
      refine pg_f (v := .ref w_8) (C := RX8) (T := TX8) (N := 4) hx hb hts (tw_i inlX8) hown hK hP hL_w_7 hK_w_7 (by decide) rfl 3 (by decide) (hts _ (tw_c tw_773)) (pq_hv rfl hR_w_8) dX4_emit_14 ?_
      refine lv_aload_n hx hb dX4_emit_17 rfl (lv_at hl 0 rfl) ?_
      refine pg_f (v := .int (I 132 this)) (C := RX4) (T := TX4) (N := 12) hx hb hts (tw_i inlX4) hown hK hP hL_this hK_this (by decide) rfl 4 (by decide) (hts _ (tw_c tw_656)) rfl dX4_emit_18 ?_
      refine lv_iload_n hx hb dX4_emit_21 rfl (lv_at hl 1 rfl) ?_
      refine pt_i hx hb hK hP hD hS hL_w_8 hK_w_8 hN_w_8 (rg_in h_6 (by decide)) dX4_emit_22 (fun r_9 H locs er_9 hP hD hS => ?_)
      have hG := GX.wR hG hSH hT_w_8 rfl er_9 (rg_w (rg_full _) (by decide)) (by decide)
      refine lv_aload_n hx hb dX4_emit_23 rfl (lv_at hl 0 rfl) ?_
      refine lv_dup hx hb dX4_emit_24 rfl ?_
      refine pg_f (v := .int (I 132 this)) (C := RX4) (T := TX4) (N := 12) hx hb hts (tw_i inlX4) hown hK hP hL_this hK_this (by decide) rfl 4 (by decide) (hts _ (tw_c tw_656)) rfl dX4_emit_25 ?_
      refine lv_iconst (v := 1) hx hb dX4_emit_28 (by decide) ?_
      refine lv_iadd hx hb dX4_emit_29 ?_
      refine lv_topi (fun x_10 ex_10 => ?_)
      have h_11 : rg x_10 1 300 := rg_of_eq ex_10 (rg_add h_6 (rg_k (1 : Int32) 1 rfl) (by decide))
      have uh_11 := h_11.1
      have vh_11 := h_11.2
      have tx_10 : (x_10).toInt = (I 132 this).toInt + 1 := by rw [ex_10]; exact i_add_rg (a2 := (I 132 this).toInt) (b2 := 1) rfl rfl h_6 (rg_k (1 : Int32) 1 rfl) (by decide)
      refine pp_i (v := x_10) (ty := .int) (C := RX4) (T := TX4) (N := 12) hx hb hts (tw_i inlX4) tyX4 tyX4_ok nmX4 hown hK hP hD hS hL_this hK_this (by decide) rfl 4 132 (by decide) (hts _ (tw_c tw_656)) rfl (tyX4_ok 4 (by decide)) rfl rfl (Nat.le_of_ble_eq_true rfl) (ps_132 _ _ _ _ _) dX4_emit_30 (fun I_12 H locs eI_12 hP hD hS => ?_)
      have hG := GX.wI hG 132 rfl eI_12 (rg_w h_11 (by decide)) (by decide)
      have tt_13 : (I_12 132 this).toInt = (x_10).toInt := by rw [eI_12, pq_us]
      have tt_14 : (I_12 134 this).toInt = (I 134 this).toInt := by rw [eI_12, pq_uf _ _ _ (by decide)]
      have tt_15 : (I_12 129 this).toInt = (I 129 this).toInt := by rw [eI_12, pq_uf _ _ _ (by decide)]
      subst hQ
      exact W.vret hx hb hr (fun t1 ht hW => ⟨⟨(σ, I_12, J, r_9, rj, rq), rfl, ⟨I_12, r_9, rfl, hG, (by omega), (ft_w (fun _ _ => rfl) er_9 hT_w_8 (by decide))⟩, by rw [ht]; exact hP, va_K.moved hW.alike hK, hD⟩, hS.F ht⟩) hS.2.2 dX4_emit_33
  exact go _ _ _ hP hD hS hl

set_option maxHeartbeats 4000000 in
set_option maxRecDepth 100000 in
theorem s_X4_isName (l : Launch) (D : va_G) (t : pq_T) (σ : pq_S) (I : Nat → Nat → Int32) (J : Nat → Nat → Int64) (ri : Nat → Nat → Int32) (rj : Nat → Nat → Int64) (rq : Nat → Nat → Option Nat) (sz : Nat) (tg : Nat → Nat) (hSH : SH σ tg) (hG0 : GS tg σ I ri rq) (a0 : Int32) : MetI l yX4_isName (wa yX4_isName cX4_isName 1 (some .boolean)) ({ frames := 0, cells := 0, slots := 0, locals := 0 }) [.int a0] D t σ (I, J, ri, rj, rq) sz 0 0 (fun (r : Int32) (u : pq_S × pq_M) => u = (σ, I, J, ri, rj, rq) ∧ ((r = 1 ∧ rg a0 12 17) ∨ (r = 0 ∧ True))) := by
  refine Met.ofW (cc := cX4_isName) (maxL := 1) (ret := (some .boolean)) (by decide) rfl ?_
  intro p e s m args below meth c s₁ B hml hv
  obtain ⟨rfl, hsz, hP, hK, hD0, hN⟩ := hv
  have hx := B.exec
  have hb := B.bytes
  have hr := B.returns
  have hts := atoms_spec (ws := (wa yX4_isName cX4_isName 1 (some .boolean))) B.pre
  have hown : s.vm.findClass RX4 = some m.cls := findClass_of_methodNamed B.named
  have hlocks := B.notSynchronized
  subst hsz
  have hD : va_D (pq_B t σ (I, J, ri, rj, rq) s.heap.size) (pq_P t σ (I, J, ri, rj, rq)) := hD0.self
  generalize hAe : pq_B t σ (I, J, ri, rj, rq) s.heap.size = A at hD ⊢
  have hA : ∀ q : Nat, s.heap.size ≤ q → A q := fun q h => by rw [← hAe]; exact Or.inr h
  have hS : va_S A s.heap s.heap [] := va_S.rf
  have hG : GX [] tg σ I ri rj I ri rj rq := ⟨hG0, fun _ _ _ => rfl, fun _ _ _ _ _ => rfl, fun _ _ _ _ _ => rfl⟩
  have hl := lv_entry ([.int a0]) (n := 1) (Nat.le_of_ble_eq_true rfl)
  rw [lg_entry_eq]
  generalize (lg_sl ([.int a0]) ++ List.replicate (1 - (lg_sl ([.int a0])).length) Slot.unset).toArray = ls at hl ⊢
  have hl : lv_has ls 1 [(0, .int a0)] := hl
  refine q_gen (fun Q hQ => ?_)
  have go : ∀ (H : Heap) (locs : List Loc) (ls : Array Slot), va_P D vwCl (pq_P t σ (I, J, ri, rj, rq)) H → va_D A (pq_P t σ (I, J, ri, rj, rq)) → va_S A s.heap H locs → lv_has ls 1 [(0, .int a0)] → W p l e ({ frames := 0, cells := 0, slots := 0, locals := 0 } : Room) s m (List.toArray ([.int a0] : List Value)) below meth c H locs 0 0 Q (F0 m 0 ls []) := by
    intro H locs ls hP hD hS hl
    refine lv_iload_n hx hb dX4_isName_0 rfl (lv_at hl 0 rfl) ?_
    refine lv_bipush (v := 12) hx hb dX4_isName_1 (by decide) ?_
    refine lv_icmp_lt (tgt := 16) hx hb dX4_isName_3 (by decide) (fun c_1 => ?_) (fun c_1 => ?_)
    · have tc_2 : (a0).toInt < 12 := Int32.lt_iff_toInt_lt.mp c_1
      have h_3 : rg a0 (-2147483648) 11 := rg_lt1 c_1 (rg_full _) (rg_k (12 : Int32) 12 rfl) (by decide)
      have uh_3 := h_3.1
      have vh_3 := h_3.2
      refine lv_iconst (v := 0) hx hb dX4_isName_16 (by decide) ?_
      subst hQ
      exact W.zret (v := 0) hx hb hr (by decide) (fun t1 ht hW => ⟨⟨0, (σ, I, J, ri, rj, rq), rfl, ⟨rfl, (Or.inr ⟨rfl, trivial⟩)⟩, by rw [ht]; exact hP, va_K.moved hW.alike hK, hD⟩, hS.F ht⟩) hS.2.2 dX4_isName_17
    · have tc_4 : 12 ≤ (a0).toInt := Int32.le_iff_toInt_le.mp (nlt c_1)
      have h_5 : rg a0 12 2147483647 := rg_le2 (nlt c_1) (rg_k (12 : Int32) 12 rfl) (rg_full _) (by decide)
      have uh_5 := h_5.1
      have vh_5 := h_5.2
      refine lv_iload_n hx hb dX4_isName_6 rfl (lv_at hl 0 rfl) ?_
      refine lv_bipush (v := 17) hx hb dX4_isName_7 (by decide) ?_
      refine lv_icmp_gt (tgt := 16) hx hb dX4_isName_9 (by decide) (fun c_6 => ?_) (fun c_6 => ?_)
      · have tc_7 : 17 < (a0).toInt := Int32.lt_iff_toInt_lt.mp c_6
        have h_8 : rg a0 18 2147483647 := rg_lt2 c_6 (rg_k (17 : Int32) 17 rfl) h_5 (by decide)
        have uh_8 := h_8.1
        have vh_8 := h_8.2
        refine lv_iconst (v := 0) hx hb dX4_isName_16 (by decide) ?_
        subst hQ
        exact W.zret (v := 0) hx hb hr (by decide) (fun t1 ht hW => ⟨⟨0, (σ, I, J, ri, rj, rq), rfl, ⟨rfl, (Or.inr ⟨rfl, trivial⟩)⟩, by rw [ht]; exact hP, va_K.moved hW.alike hK, hD⟩, hS.F ht⟩) hS.2.2 dX4_isName_17
      · have tc_9 : (a0).toInt ≤ 17 := Int32.le_iff_toInt_le.mp (nlt c_6)
        have h_10 : rg a0 12 17 := rg_le1 (nlt c_6) h_5 (rg_k (17 : Int32) 17 rfl) (by decide)
        have uh_10 := h_10.1
        have vh_10 := h_10.2
        refine lv_iconst (v := 1) hx hb dX4_isName_12 (by decide) ?_
        refine lv_goto (tgt := 17) hx hb dX4_isName_13 (by decide) ?_
        subst hQ
        exact W.zret (v := 1) hx hb hr (by decide) (fun t1 ht hW => ⟨⟨1, (σ, I, J, ri, rj, rq), rfl, ⟨rfl, (Or.inl ⟨rfl, (rg_w h_10 (by decide))⟩)⟩, by rw [ht]; exact hP, va_K.moved hW.alike hK, hD⟩, hS.F ht⟩) hS.2.2 dX4_isName_17
  exact go _ _ _ hP hD hS hl

set_option maxHeartbeats 4000000 in
set_option maxRecDepth 100000 in
theorem s_X4_await (l : Launch) (D : va_G) (t : pq_T) (σ : pq_S) (I : Nat → Nat → Int32) (J : Nat → Nat → Int64) (ri : Nat → Nat → Int32) (rj : Nat → Nat → Int64) (rq : Nat → Nat → Option Nat) (sz : Nat) (tg : Nat → Nat) (hSH : SH σ tg) (hG0 : GS tg σ I ri rq) (this : Nat) (a0 : Int32) (hL_this : this ∈ σ.1) (hK_this : σ.2.1 this = 4) : MetV l yX4_await (wa yX4_await cX4_await 2 none) ({ frames := 0, cells := 0, slots := 0, locals := 0 }) [.ref this, .int a0] D t σ (I, J, ri, rj, rq) sz 0 0 (fun (u : pq_S × pq_M) => ∃ I' : Nat → Nat → Int32, ∃ ri' : Nat → Nat → Int32, u = (σ, I', J, ri', rj, rq) ∧ GX [134] tg σ I ri rj I' ri' rj rq ∧ ((I 134 this).toInt ≤ (I' 134 this).toInt ∧ (I' 134 this).toInt ≤ (I 134 this).toInt + 1) ∧ (∀ q, tg q = 258 → ri' q = ri q)) := by
  refine Met.ofW (cc := cX4_await) (maxL := 2) (ret := none) (by decide) rfl ?_
  intro p e s m args below meth c s₁ B hml hv
  obtain ⟨rfl, hsz, hP, hK, hD0, hN⟩ := hv
  have hx := B.exec
  have hb := B.bytes
  have hr := B.returns
  have hts := atoms_spec (ws := (wa yX4_await cX4_await 2 none)) B.pre
  have hown : s.vm.findClass RX4 = some m.cls := findClass_of_methodNamed B.named
  have hlocks := B.notSynchronized
  subst hsz
  have hD : va_D (pq_B t σ (I, J, ri, rj, rq) s.heap.size) (pq_P t σ (I, J, ri, rj, rq)) := hD0.self
  generalize hAe : pq_B t σ (I, J, ri, rj, rq) s.heap.size = A at hD ⊢
  have hA : ∀ q : Nat, s.heap.size ≤ q → A q := fun q h => by rw [← hAe]; exact Or.inr h
  have hS : va_S A s.heap s.heap [] := va_S.rf
  have hG : GX [134] tg σ I ri rj I ri rj rq := ⟨hG0, fun _ _ _ => rfl, fun _ _ _ _ _ => rfl, fun _ _ _ _ _ => rfl⟩
  have hl := lv_entry ([.ref this, .int a0]) (n := 2) (Nat.le_of_ble_eq_true rfl)
  rw [lg_entry_eq]
  generalize (lg_sl ([.ref this, .int a0]) ++ List.replicate (2 - (lg_sl ([.ref this, .int a0])).length) Slot.unset).toArray = ls at hl ⊢
  have hl : lv_has ls 2 [(0, .ref this), (1, .int a0)] := hl
  refine q_gen (fun Q hQ => ?_)
  have go : ∀ (H : Heap) (locs : List Loc) (ls : Array Slot), va_P D vwCl (pq_P t σ (I, J, ri, rj, rq)) H → va_D A (pq_P t σ (I, J, ri, rj, rq)) → va_S A s.heap H locs → lv_has ls 2 [(0, .ref this), (1, .int a0)] → W p l e ({ frames := 0, cells := 0, slots := 0, locals := 0 } : Room) s m (List.toArray ([.ref this, .int a0] : List Value)) below meth c H locs 0 0 Q (F0 m 0 ls []) := by
    intro H locs ls hP hD hS hl
    refine lv_aload_n hx hb dX4_await_0 rfl (lv_at hl 0 rfl) ?_
    refine pg_f (v := .int (I 134 this)) (C := RX4) (T := TX4) (N := 12) hx hb hts (tw_i inlX4) hown hK hP hL_this hK_this (by decide) rfl 6 (by decide) (hts _ (tw_c tw_758)) rfl dX4_await_1 ?_
    have h_1 : rg (I 134 this) 0 40 := GX.rI hG 134 rfl
    have uh_1 := h_1.1
    have vh_1 := h_1.2
    refine lv_aload_n hx hb dX4_await_4 rfl (lv_at hl 0 rfl) ?_
    obtain ⟨w_2, hR_w_2, hL_w_2, hK_w_2, hN_w_2, hT_w_2⟩ := sh_a hSH 133 (ci := 4) (kd := 13) (len := 40) rfl (by decide) hL_this hK_this
    refine pg_f (v := .ref w_2) (C := RX4) (T := TX4) (N := 12) hx hb hts (tw_i inlX4) hown hK hP hL_this hK_this (by decide) rfl 5 (by decide) (hts _ (tw_c tw_161)) (pq_hv rfl hR_w_2) dX4_await_5 ?_
    refine pn_i (v := 40) hx hb hK hP hL_w_2 hK_w_2 hN_w_2 (by decide) dX4_await_8 ?_
    refine lv_icmp_ge (tgt := 32) hx hb dX4_await_9 (by decide) (fun c_3 => ?_) (fun c_3 => ?_)
    · have tc_4 : 40 ≤ (I 134 this).toInt := Int32.le_iff_toInt_le.mp c_3
      have h_5 : rg (I 134 this) 40 40 := rg_le2 c_3 (rg_k (40 : Int32) 40 rfl) h_1 (by decide)
      have uh_5 := h_5.1
      have vh_5 := h_5.2
      subst hQ
      exact W.vret hx hb hr (fun t1 ht hW => ⟨⟨(σ, I, J, ri, rj, rq), rfl, ⟨I, ri, rfl, hG, (by omega), (fun _ _ => rfl)⟩, by rw [ht]; exact hP, va_K.moved hW.alike hK, hD⟩, hS.F ht⟩) hS.2.2 dX4_await_32
    · have tc_6 : (I 134 this).toInt < 40 := Int32.lt_iff_toInt_lt.mp (nle c_3)
      have h_7 : rg (I 134 this) 0 39 := rg_lt1 (nle c_3) h_1 (rg_k (40 : Int32) 40 rfl) (by decide)
      have uh_7 := h_7.1
      have vh_7 := h_7.2
      refine lv_aload_n hx hb dX4_await_12 rfl (lv_at hl 0 rfl) ?_
      refine pg_f (v := .ref w_2) (C := RX4) (T := TX4) (N := 12) hx hb hts (tw_i inlX4) hown hK hP hL_this hK_this (by decide) rfl 5 (by decide) (hts _ (tw_c tw_161)) (pq_hv rfl hR_w_2) dX4_await_13 ?_
      refine lv_aload_n hx hb dX4_await_16 rfl (lv_at hl 0 rfl) ?_
      refine pg_f (v := .int (I 134 this)) (C := RX4) (T := TX4) (N := 12) hx hb hts (tw_i inlX4) hown hK hP hL_this hK_this (by decide) rfl 6 (by decide) (hts _ (tw_c tw_758)) rfl dX4_await_17 ?_
      refine lv_iload_n hx hb dX4_await_20 rfl (lv_at hl 1 rfl) ?_
      refine pt_i hx hb hK hP hD hS hL_w_2 hK_w_2 hN_w_2 (rg_in h_7 (by decide)) dX4_await_21 (fun r_8 H locs er_8 hP hD hS => ?_)
      have hG := GX.wR hG hSH hT_w_2 rfl er_8 (rg_w (rg_full _) (by decide)) (by decide)
      refine lv_aload_n hx hb dX4_await_22 rfl (lv_at hl 0 rfl) ?_
      refine lv_dup hx hb dX4_await_23 rfl ?_
      refine pg_f (v := .int (I 134 this)) (C := RX4) (T := TX4) (N := 12) hx hb hts (tw_i inlX4) hown hK hP hL_this hK_this (by decide) rfl 6 (by decide) (hts _ (tw_c tw_758)) rfl dX4_await_24 ?_
      refine lv_iconst (v := 1) hx hb dX4_await_27 (by decide) ?_
      refine lv_iadd hx hb dX4_await_28 ?_
      refine lv_topi (fun x_9 ex_9 => ?_)
      have h_10 : rg x_9 1 40 := rg_of_eq ex_9 (rg_add h_7 (rg_k (1 : Int32) 1 rfl) (by decide))
      have uh_10 := h_10.1
      have vh_10 := h_10.2
      have tx_9 : (x_9).toInt = (I 134 this).toInt + 1 := by rw [ex_9]; exact i_add_rg (a2 := (I 134 this).toInt) (b2 := 1) rfl rfl h_7 (rg_k (1 : Int32) 1 rfl) (by decide)
      refine pp_i (v := x_9) (ty := .int) (C := RX4) (T := TX4) (N := 12) hx hb hts (tw_i inlX4) tyX4 tyX4_ok nmX4 hown hK hP hD hS hL_this hK_this (by decide) rfl 6 134 (by decide) (hts _ (tw_c tw_758)) rfl (tyX4_ok 6 (by decide)) rfl rfl (Nat.le_of_ble_eq_true rfl) (ps_134 _ _ _ _ _) dX4_await_29 (fun I_11 H locs eI_11 hP hD hS => ?_)
      have hG := GX.wI hG 134 rfl eI_11 (rg_w h_10 (by decide)) (by decide)
      have tt_12 : (I_11 132 this).toInt = (I 132 this).toInt := by rw [eI_11, pq_uf _ _ _ (by decide)]
      have tt_13 : (I_11 134 this).toInt = (x_9).toInt := by rw [eI_11, pq_us]
      have tt_14 : (I_11 129 this).toInt = (I 129 this).toInt := by rw [eI_11, pq_uf _ _ _ (by decide)]
      subst hQ
      exact W.vret hx hb hr (fun t1 ht hW => ⟨⟨(σ, I_11, J, r_8, rj, rq), rfl, ⟨I_11, r_8, rfl, hG, (by omega), (ft_w (fun _ _ => rfl) er_8 hT_w_2 (by decide))⟩, by rw [ht]; exact hP, va_K.moved hW.alike hK, hD⟩, hS.F ht⟩) hS.2.2 dX4_await_32
  exact go _ _ _ hP hD hS hl

set_option maxHeartbeats 4000000 in
set_option maxRecDepth 100000 in
theorem s_X4_openUp (l : Launch) (D : va_G) (t : pq_T) (σ : pq_S) (I : Nat → Nat → Int32) (J : Nat → Nat → Int64) (ri : Nat → Nat → Int32) (rj : Nat → Nat → Int64) (rq : Nat → Nat → Option Nat) (sz : Nat) (tg : Nat → Nat) (hSH : SH σ tg) (hG0 : GS tg σ I ri rq) (this : Nat) (a0 : Int32) (hL_this : this ∈ σ.1) (hK_this : σ.2.1 this = 4) : MetV l yX4_openUp (wa yX4_openUp cX4_openUp 2 none) ({ frames := 1, cells := 0, slots := 0, locals := 21 }) [.ref this, .int a0] D t σ (I, J, ri, rj, rq) sz 0 0 (fun (u : pq_S × pq_M) => ∃ I' : Nat → Nat → Int32, ∃ ri' : Nat → Nat → Int32, u = (σ, I', J, ri', rj, rq) ∧ GX [134, 129] tg σ I ri rj I' ri' rj rq ∧ ((I 134 this).toInt ≤ (I' 134 this).toInt ∧ (I' 134 this).toInt ≤ (I 134 this).toInt + 1) ∧ (∀ q, tg q = 258 → ri' q = ri q)) := by
  refine Met.ofW (cc := cX4_openUp) (maxL := 2) (ret := none) (by decide) rfl ?_
  intro p e s m args below meth c s₁ B hml hv
  obtain ⟨rfl, hsz, hP, hK, hD0, hN⟩ := hv
  have hx := B.exec
  have hb := B.bytes
  have hr := B.returns
  have hts := atoms_spec (ws := (wa yX4_openUp cX4_openUp 2 none)) B.pre
  have hown : s.vm.findClass RX4 = some m.cls := findClass_of_methodNamed B.named
  have hlocks := B.notSynchronized
  subst hsz
  have hD : va_D (pq_B t σ (I, J, ri, rj, rq) s.heap.size) (pq_P t σ (I, J, ri, rj, rq)) := hD0.self
  generalize hAe : pq_B t σ (I, J, ri, rj, rq) s.heap.size = A at hD ⊢
  have hA : ∀ q : Nat, s.heap.size ≤ q → A q := fun q h => by rw [← hAe]; exact Or.inr h
  have hS : va_S A s.heap s.heap [] := va_S.rf
  have hG : GX [134, 129] tg σ I ri rj I ri rj rq := ⟨hG0, fun _ _ _ => rfl, fun _ _ _ _ _ => rfl, fun _ _ _ _ _ => rfl⟩
  have hl := lv_entry ([.ref this, .int a0]) (n := 2) (Nat.le_of_ble_eq_true rfl)
  rw [lg_entry_eq]
  generalize (lg_sl ([.ref this, .int a0]) ++ List.replicate (2 - (lg_sl ([.ref this, .int a0])).length) Slot.unset).toArray = ls at hl ⊢
  have hl : lv_has ls 2 [(0, .ref this), (1, .int a0)] := hl
  refine q_gen (fun Q hQ => ?_)
  have go : ∀ (H : Heap) (locs : List Loc) (ls : Array Slot), va_P D vwCl (pq_P t σ (I, J, ri, rj, rq)) H → va_D A (pq_P t σ (I, J, ri, rj, rq)) → va_S A s.heap H locs → lv_has ls 2 [(0, .ref this), (1, .int a0)] → W p l e ({ frames := 1, cells := 0, slots := 0, locals := 21 } : Room) s m (List.toArray ([.ref this, .int a0] : List Value)) below meth c H locs 0 0 Q (F0 m 0 ls []) := by
    intro H locs ls hP hD hS hl
    refine lv_aload_n hx hb dX4_openUp_0 rfl (lv_at hl 0 rfl) ?_
    refine pg_f (v := .int (I 135 this)) (C := RX4) (T := TX4) (N := 12) hx hb hts (tw_i inlX4) hown hK hP hL_this hK_this (by decide) rfl 7 (by decide) (hts _ (tw_c tw_759)) rfl dX4_openUp_1 ?_
    refine lv_bipush (v := 8) hx hb dX4_openUp_4 (by decide) ?_
    refine lv_icmp_lt (tgt := 14) hx hb dX4_openUp_6 (by decide) (fun c_1 => ?_) (fun c_1 => ?_)
    · have tc_2 : (I 135 this).toInt < 8 := Int32.lt_iff_toInt_lt.mp c_1
      have h_3 : rg (I 135 this) (-2147483648) 7 := rg_lt1 c_1 (rg_full _) (rg_k (8 : Int32) 8 rfl) (by decide)
      have uh_3 := h_3.1
      have vh_3 := h_3.2
      refine lv_aload_n hx hb dX4_openUp_14 rfl (lv_at hl 0 rfl) ?_
      refine lv_dup hx hb dX4_openUp_15 rfl ?_
      refine pg_f (v := .int (I 135 this)) (C := RX4) (T := TX4) (N := 12) hx hb hts (tw_i inlX4) hown hK hP hL_this hK_this (by decide) rfl 7 (by decide) (hts _ (tw_c tw_759)) rfl dX4_openUp_16 ?_
      refine lv_iconst (v := 1) hx hb dX4_openUp_19 (by decide) ?_
      refine lv_iadd hx hb dX4_openUp_20 ?_
      refine lv_topi (fun x_4 ex_4 => ?_)
      have h_5 : rg x_4 (-2147483647) 8 := rg_of_eq ex_4 (rg_add h_3 (rg_k (1 : Int32) 1 rfl) (by decide))
      have uh_5 := h_5.1
      have vh_5 := h_5.2
      have tx_4 : (x_4).toInt = (I 135 this).toInt + 1 := by rw [ex_4]; exact i_add_rg (a2 := (I 135 this).toInt) (b2 := 1) rfl rfl h_3 (rg_k (1 : Int32) 1 rfl) (by decide)
      refine pp_i (v := x_4) (ty := .int) (C := RX4) (T := TX4) (N := 12) hx hb hts (tw_i inlX4) tyX4 tyX4_ok nmX4 hown hK hP hD hS hL_this hK_this (by decide) rfl 7 135 (by decide) (hts _ (tw_c tw_759)) rfl (tyX4_ok 7 (by decide)) rfl rfl (Nat.le_of_ble_eq_true rfl) (ps_135 _ _ _ _ _) dX4_openUp_21 (fun I_6 H locs eI_6 hP hD hS => ?_)
      have hG := GX.wI hG 135 rfl eI_6 (rg_w h_5 (by decide)) (by decide)
      have tt_7 : (I_6 132 this).toInt = (I 132 this).toInt := by rw [eI_6, pq_uf _ _ _ (by decide)]
      have tt_8 : (I_6 134 this).toInt = (I 134 this).toInt := by rw [eI_6, pq_uf _ _ _ (by decide)]
      have tt_9 : (I_6 129 this).toInt = (I 129 this).toInt := by rw [eI_6, pq_uf _ _ _ (by decide)]
      refine lv_iload_n hx hb dX4_openUp_24 rfl (lv_at hl 1 rfl) ?_
      refine lv_bipush (v := 29) hx hb dX4_openUp_25 (by decide) ?_
      refine lv_icmp_ne (tgt := 40) hx hb dX4_openUp_27 (by decide) (fun c_10 => ?_) (fun c_10 => ?_)
      · have tc_11 : (a0).toInt ≠ 29 := fun q => c_10 (Int32.toInt_inj.mp q)
        refine lv_aload_n hx hb dX4_openUp_40 rfl (lv_at hl 0 rfl) ?_
        refine lv_iload_n hx hb dX4_openUp_41 rfl (lv_at hl 1 rfl) ?_
        refine lv_bipush (v := 11) hx hb dX4_openUp_42 (by decide) ?_
        refine lv_icmp_ne (tgt := 51) hx hb dX4_openUp_44 (by decide) (fun c_12 => ?_) (fun c_12 => ?_)
        · have tc_13 : (a0).toInt ≠ 11 := fun q => c_12 (Int32.toInt_inj.mp q)
          refine lv_iconst (v := 0) hx hb dX4_openUp_51 (by decide) ?_
          refine pp_i (v := 0) (ty := .boolean) (C := RX4) (T := TX4) (N := 12) hx hb hts (tw_i inlX4) tyX4 tyX4_ok nmX4 hown hK hP hD hS hL_this hK_this (by decide) rfl 9 137 (by decide) (hts _ (tw_c tw_761)) rfl (tyX4_ok 9 (by decide)) rfl (by decide) (Nat.le_of_ble_eq_true rfl) (ps_137 _ _ _ _ _) dX4_openUp_52 (fun I_14 H locs eI_14 hP hD hS => ?_)
          have hG := GX.wI hG 137 rfl eI_14 (rg_w (rg_k (0 : Int32) 0 rfl) (by decide)) (by decide)
          have tt_15 : (I_14 132 this).toInt = (I_6 132 this).toInt := by rw [eI_14, pq_uf _ _ _ (by decide)]
          have tt_16 : (I_14 134 this).toInt = (I_6 134 this).toInt := by rw [eI_14, pq_uf _ _ _ (by decide)]
          have tt_17 : (I_14 129 this).toInt = (I_6 129 this).toInt := by rw [eI_14, pq_uf _ _ _ (by decide)]
          refine lv_aload_n hx hb dX4_openUp_55 rfl (lv_at hl 0 rfl) ?_
          refine lv_iload_n hx hb dX4_openUp_56 rfl (lv_at hl 1 rfl) ?_
          refine pk_v (va_runV (As := [.int a0]) (rest := []) ⟨hx, hb, hml, hown, hts⟩ (s_X4_await l D t σ I_14 J ri rj rq H.size tg hSH hG.1 this a0 hL_this hK_this) (cwV 1 hts (tw_V tw_781 tw_782 tw_783 tw_25 tw_784) rfl rfl rfl cv_yX4_await_1 ⟨Nat.le_of_ble_eq_true rfl, Nat.le_of_ble_eq_true rfl⟩) ⟨pq_blind, pq_recv hK hP hL_this hK_this (by decide) rfl, pq_pre hK hN hP hD⟩ rfl rfl hl.1 rfl (lv_room (Nat.le_of_ble_eq_true rfl)) dX4_openUp_57 ⟨Nat.le_of_ble_eq_true rfl, Nat.le_of_ble_eq_true rfl⟩) hD hS hA (fun σ1 μ1 H locs hw_19 hP hD hS => ?_)
          obtain ⟨I_20, ri_21, hu_22, hg_23, hp_25, hp_26⟩ := hw_19
          obtain ⟨hu_22a, hu_22b⟩ := Prod.mk.inj hu_22
          rw [hu_22a, hu_22b] at hP hD
          have tt_27 := hp_25
          have tt_28 := hp_26
          have hG := GX.tr hG hg_23 (by decide)
          have tt_29 : (I_20 132 this).toInt = (I_14 132 this).toInt := by rw [hg_23.2.1 132 (by decide) (by decide)]
          have tt_30 : (I_20 129 this).toInt = (I_14 129 this).toInt := by rw [hg_23.2.1 129 (by decide) (by decide)]
          subst hQ
          exact W.vret hx hb hr (fun t1 ht hW => ⟨⟨(σ, I_20, J, ri_21, rj, rq), rfl, ⟨I_20, ri_21, rfl, hG, (by omega), (ft_t (fun _ _ => rfl) hp_26)⟩, by rw [ht]; exact hP, va_K.moved hW.alike hK, hD⟩, hS.F ht⟩) hS.2.2 dX4_openUp_60
        · have tc_31 : (a0).toInt = 11 := congrArg Int32.toInt c_12
          have h_32 : rg a0 11 11 := rg_and (rg_full _) (rg_of_eq c_12 (rg_k (11 : Int32) 11 rfl)) (by decide)
          have uh_32 := h_32.1
          have vh_32 := h_32.2
          refine lv_iconst (v := 1) hx hb dX4_openUp_47 (by decide) ?_
          refine lv_goto (tgt := 52) hx hb dX4_openUp_48 (by decide) ?_
          refine pp_i (v := 1) (ty := .boolean) (C := RX4) (T := TX4) (N := 12) hx hb hts (tw_i inlX4) tyX4 tyX4_ok nmX4 hown hK hP hD hS hL_this hK_this (by decide) rfl 9 137 (by decide) (hts _ (tw_c tw_761)) rfl (tyX4_ok 9 (by decide)) rfl (by decide) (Nat.le_of_ble_eq_true rfl) (ps_137 _ _ _ _ _) dX4_openUp_52 (fun I_33 H locs eI_33 hP hD hS => ?_)
          have hG := GX.wI hG 137 rfl eI_33 (rg_w (rg_k (1 : Int32) 1 rfl) (by decide)) (by decide)
          have tt_34 : (I_33 132 this).toInt = (I_6 132 this).toInt := by rw [eI_33, pq_uf _ _ _ (by decide)]
          have tt_35 : (I_33 134 this).toInt = (I_6 134 this).toInt := by rw [eI_33, pq_uf _ _ _ (by decide)]
          have tt_36 : (I_33 129 this).toInt = (I_6 129 this).toInt := by rw [eI_33, pq_uf _ _ _ (by decide)]
          refine lv_aload_n hx hb dX4_openUp_55 rfl (lv_at hl 0 rfl) ?_
          refine lv_iload_n hx hb dX4_openUp_56 rfl (lv_at hl 1 rfl) ?_
          refine pk_v (va_runV (As := [.int a0]) (rest := []) ⟨hx, hb, hml, hown, hts⟩ (s_X4_await l D t σ I_33 J ri rj rq H.size tg hSH hG.1 this a0 hL_this hK_this) (cwV 1 hts (tw_V tw_781 tw_782 tw_783 tw_25 tw_784) rfl rfl rfl cv_yX4_await_1 ⟨Nat.le_of_ble_eq_true rfl, Nat.le_of_ble_eq_true rfl⟩) ⟨pq_blind, pq_recv hK hP hL_this hK_this (by decide) rfl, pq_pre hK hN hP hD⟩ rfl rfl hl.1 rfl (lv_room (Nat.le_of_ble_eq_true rfl)) dX4_openUp_57 ⟨Nat.le_of_ble_eq_true rfl, Nat.le_of_ble_eq_true rfl⟩) hD hS hA (fun σ1 μ1 H locs hw_38 hP hD hS => ?_)
          obtain ⟨I_39, ri_40, hu_41, hg_42, hp_44, hp_45⟩ := hw_38
          obtain ⟨hu_41a, hu_41b⟩ := Prod.mk.inj hu_41
          rw [hu_41a, hu_41b] at hP hD
          have tt_46 := hp_44
          have tt_47 := hp_45
          have hG := GX.tr hG hg_42 (by decide)
          have tt_48 : (I_39 132 this).toInt = (I_33 132 this).toInt := by rw [hg_42.2.1 132 (by decide) (by decide)]
          have tt_49 : (I_39 129 this).toInt = (I_33 129 this).toInt := by rw [hg_42.2.1 129 (by decide) (by decide)]
          subst hQ
          exact W.vret hx hb hr (fun t1 ht hW => ⟨⟨(σ, I_39, J, ri_40, rj, rq), rfl, ⟨I_39, ri_40, rfl, hG, (by omega), (ft_t (fun _ _ => rfl) hp_45)⟩, by rw [ht]; exact hP, va_K.moved hW.alike hK, hD⟩, hS.F ht⟩) hS.2.2 dX4_openUp_60
      · have tc_50 : (a0).toInt = 29 := congrArg Int32.toInt c_10
        have h_51 : rg a0 29 29 := rg_and (rg_full _) (rg_of_eq c_10 (rg_k (29 : Int32) 29 rfl)) (by decide)
        have uh_51 := h_51.1
        have vh_51 := h_51.2
        refine lv_aload_n hx hb dX4_openUp_30 rfl (lv_at hl 0 rfl) ?_
        refine lv_dup hx hb dX4_openUp_31 rfl ?_
        refine pg_f (v := .int (I_6 136 this)) (C := RX4) (T := TX4) (N := 12) hx hb hts (tw_i inlX4) hown hK hP hL_this hK_this (by decide) rfl 8 (by decide) (hts _ (tw_c tw_760)) rfl dX4_openUp_32 ?_
        refine lv_iconst (v := 1) hx hb dX4_openUp_35 (by decide) ?_
        refine lv_iadd hx hb dX4_openUp_36 ?_
        refine lv_topi (fun x_52 ex_52 => ?_)
        refine pp_i (v := x_52) (ty := .int) (C := RX4) (T := TX4) (N := 12) hx hb hts (tw_i inlX4) tyX4 tyX4_ok nmX4 hown hK hP hD hS hL_this hK_this (by decide) rfl 8 136 (by decide) (hts _ (tw_c tw_760)) rfl (tyX4_ok 8 (by decide)) rfl rfl (Nat.le_of_ble_eq_true rfl) (ps_136 _ _ _ _ _) dX4_openUp_37 (fun I_53 H locs eI_53 hP hD hS => ?_)
        have hG := GX.wI hG 136 rfl eI_53 (rg_w (rg_full _) (by decide)) (by decide)
        have tt_54 : (I_53 132 this).toInt = (I_6 132 this).toInt := by rw [eI_53, pq_uf _ _ _ (by decide)]
        have tt_55 : (I_53 134 this).toInt = (I_6 134 this).toInt := by rw [eI_53, pq_uf _ _ _ (by decide)]
        have tt_56 : (I_53 129 this).toInt = (I_6 129 this).toInt := by rw [eI_53, pq_uf _ _ _ (by decide)]
        refine lv_aload_n hx hb dX4_openUp_40 rfl (lv_at hl 0 rfl) ?_
        refine lv_iload_n hx hb dX4_openUp_41 rfl (lv_at hl 1 rfl) ?_
        refine lv_bipush (v := 11) hx hb dX4_openUp_42 (by decide) ?_
        refine lv_icmp_ne (tgt := 51) hx hb dX4_openUp_44 (by decide) (fun c_57 => ?_) (fun c_57 => ?_)
        · have tc_58 : (a0).toInt ≠ 11 := fun q => c_57 (Int32.toInt_inj.mp q)
          refine lv_iconst (v := 0) hx hb dX4_openUp_51 (by decide) ?_
          refine pp_i (v := 0) (ty := .boolean) (C := RX4) (T := TX4) (N := 12) hx hb hts (tw_i inlX4) tyX4 tyX4_ok nmX4 hown hK hP hD hS hL_this hK_this (by decide) rfl 9 137 (by decide) (hts _ (tw_c tw_761)) rfl (tyX4_ok 9 (by decide)) rfl (by decide) (Nat.le_of_ble_eq_true rfl) (ps_137 _ _ _ _ _) dX4_openUp_52 (fun I_59 H locs eI_59 hP hD hS => ?_)
          have hG := GX.wI hG 137 rfl eI_59 (rg_w (rg_k (0 : Int32) 0 rfl) (by decide)) (by decide)
          have tt_60 : (I_59 132 this).toInt = (I_53 132 this).toInt := by rw [eI_59, pq_uf _ _ _ (by decide)]
          have tt_61 : (I_59 134 this).toInt = (I_53 134 this).toInt := by rw [eI_59, pq_uf _ _ _ (by decide)]
          have tt_62 : (I_59 129 this).toInt = (I_53 129 this).toInt := by rw [eI_59, pq_uf _ _ _ (by decide)]
          refine lv_aload_n hx hb dX4_openUp_55 rfl (lv_at hl 0 rfl) ?_
          refine lv_iload_n hx hb dX4_openUp_56 rfl (lv_at hl 1 rfl) ?_
          refine pk_v (va_runV (As := [.int a0]) (rest := []) ⟨hx, hb, hml, hown, hts⟩ (s_X4_await l D t σ I_59 J ri rj rq H.size tg hSH hG.1 this a0 hL_this hK_this) (cwV 1 hts (tw_V tw_781 tw_782 tw_783 tw_25 tw_784) rfl rfl rfl cv_yX4_await_1 ⟨Nat.le_of_ble_eq_true rfl, Nat.le_of_ble_eq_true rfl⟩) ⟨pq_blind, pq_recv hK hP hL_this hK_this (by decide) rfl, pq_pre hK hN hP hD⟩ rfl rfl hl.1 rfl (lv_room (Nat.le_of_ble_eq_true rfl)) dX4_openUp_57 ⟨Nat.le_of_ble_eq_true rfl, Nat.le_of_ble_eq_true rfl⟩) hD hS hA (fun σ1 μ1 H locs hw_64 hP hD hS => ?_)
          obtain ⟨I_65, ri_66, hu_67, hg_68, hp_70, hp_71⟩ := hw_64
          obtain ⟨hu_67a, hu_67b⟩ := Prod.mk.inj hu_67
          rw [hu_67a, hu_67b] at hP hD
          have tt_72 := hp_70
          have tt_73 := hp_71
          have hG := GX.tr hG hg_68 (by decide)
          have tt_74 : (I_65 132 this).toInt = (I_59 132 this).toInt := by rw [hg_68.2.1 132 (by decide) (by decide)]
          have tt_75 : (I_65 129 this).toInt = (I_59 129 this).toInt := by rw [hg_68.2.1 129 (by decide) (by decide)]
          subst hQ
          exact W.vret hx hb hr (fun t1 ht hW => ⟨⟨(σ, I_65, J, ri_66, rj, rq), rfl, ⟨I_65, ri_66, rfl, hG, (by omega), (ft_t (fun _ _ => rfl) hp_71)⟩, by rw [ht]; exact hP, va_K.moved hW.alike hK, hD⟩, hS.F ht⟩) hS.2.2 dX4_openUp_60
        · have tc_76 : (a0).toInt = 11 := congrArg Int32.toInt c_57
          exact (rg_empty (rg_and h_51 (rg_of_eq c_57 (rg_k (11 : Int32) 11 rfl)) (lo := 29) (hi := 11) (by decide)) (by decide)).elim
    · have tc_77 : 8 ≤ (I 135 this).toInt := Int32.le_iff_toInt_le.mp (nlt c_1)
      have h_78 : rg (I 135 this) 8 2147483647 := rg_le2 (nlt c_1) (rg_k (8 : Int32) 8 rfl) (rg_full _) (by decide)
      have uh_78 := h_78.1
      have vh_78 := h_78.2
      refine lv_aload_n hx hb dX4_openUp_9 rfl (lv_at hl 0 rfl) ?_
      refine lv_iconst (v := 3) hx hb dX4_openUp_10 (by decide) ?_
      refine pk_v (va_runV (As := [.int 3]) (rest := []) ⟨hx, hb, hml, hown, hts⟩ (s_X4_refuse l D t σ I J ri rj rq H.size tg hSH hG.1 this (3 : Int32) hL_this hK_this (rg_w (rg_k (3 : Int32) 3 rfl) (by decide))) (cwV 1 hts (tw_V tw_748 tw_749 tw_750 tw_25 tw_751) rfl rfl rfl cv_yX4_refuse_1 ⟨Nat.le_of_ble_eq_true rfl, Nat.le_of_ble_eq_true rfl⟩) ⟨pq_blind, pq_recv hK hP hL_this hK_this (by decide) rfl, pq_pre hK hN hP hD⟩ rfl rfl hl.1 rfl (lv_room (Nat.le_of_ble_eq_true rfl)) dX4_openUp_11 ⟨Nat.le_of_ble_eq_true rfl, Nat.le_of_ble_eq_true rfl⟩) hD hS hA (fun σ1 μ1 H locs hw_80 hP hD hS => ?_)
      obtain ⟨I_81, hu_82, hg_83, hp_85⟩ := hw_80
      obtain ⟨hu_82a, hu_82b⟩ := Prod.mk.inj hu_82
      rw [hu_82a, hu_82b] at hP hD
      have tt_86 := hp_85
      have hG := GX.tr hG hg_83 (by decide)
      have tt_87 : (I_81 132 this).toInt = (I 132 this).toInt := by rw [hg_83.2.1 132 (by decide) (by decide)]
      have tt_88 : (I_81 134 this).toInt = (I 134 this).toInt := by rw [hg_83.2.1 134 (by decide) (by decide)]
      refine lv_aload_n hx hb dX4_openUp_14 rfl (lv_at hl 0 rfl) ?_
      refine lv_dup hx hb dX4_openUp_15 rfl ?_
      refine pg_f (v := .int (I_81 135 this)) (C := RX4) (T := TX4) (N := 12) hx hb hts (tw_i inlX4) hown hK hP hL_this hK_this (by decide) rfl 7 (by decide) (hts _ (tw_c tw_759)) rfl dX4_openUp_16 ?_
      refine lv_iconst (v := 1) hx hb dX4_openUp_19 (by decide) ?_
      refine lv_iadd hx hb dX4_openUp_20 ?_
      refine lv_topi (fun x_89 ex_89 => ?_)
      refine pp_i (v := x_89) (ty := .int) (C := RX4) (T := TX4) (N := 12) hx hb hts (tw_i inlX4) tyX4 tyX4_ok nmX4 hown hK hP hD hS hL_this hK_this (by decide) rfl 7 135 (by decide) (hts _ (tw_c tw_759)) rfl (tyX4_ok 7 (by decide)) rfl rfl (Nat.le_of_ble_eq_true rfl) (ps_135 _ _ _ _ _) dX4_openUp_21 (fun I_90 H locs eI_90 hP hD hS => ?_)
      have hG := GX.wI hG 135 rfl eI_90 (rg_w (rg_full _) (by decide)) (by decide)
      have tt_91 : (I_90 132 this).toInt = (I_81 132 this).toInt := by rw [eI_90, pq_uf _ _ _ (by decide)]
      have tt_92 : (I_90 134 this).toInt = (I_81 134 this).toInt := by rw [eI_90, pq_uf _ _ _ (by decide)]
      have tt_93 : (I_90 129 this).toInt = (I_81 129 this).toInt := by rw [eI_90, pq_uf _ _ _ (by decide)]
      refine lv_iload_n hx hb dX4_openUp_24 rfl (lv_at hl 1 rfl) ?_
      refine lv_bipush (v := 29) hx hb dX4_openUp_25 (by decide) ?_
      refine lv_icmp_ne (tgt := 40) hx hb dX4_openUp_27 (by decide) (fun c_94 => ?_) (fun c_94 => ?_)
      · have tc_95 : (a0).toInt ≠ 29 := fun q => c_94 (Int32.toInt_inj.mp q)
        refine lv_aload_n hx hb dX4_openUp_40 rfl (lv_at hl 0 rfl) ?_
        refine lv_iload_n hx hb dX4_openUp_41 rfl (lv_at hl 1 rfl) ?_
        refine lv_bipush (v := 11) hx hb dX4_openUp_42 (by decide) ?_
        refine lv_icmp_ne (tgt := 51) hx hb dX4_openUp_44 (by decide) (fun c_96 => ?_) (fun c_96 => ?_)
        · have tc_97 : (a0).toInt ≠ 11 := fun q => c_96 (Int32.toInt_inj.mp q)
          refine lv_iconst (v := 0) hx hb dX4_openUp_51 (by decide) ?_
          refine pp_i (v := 0) (ty := .boolean) (C := RX4) (T := TX4) (N := 12) hx hb hts (tw_i inlX4) tyX4 tyX4_ok nmX4 hown hK hP hD hS hL_this hK_this (by decide) rfl 9 137 (by decide) (hts _ (tw_c tw_761)) rfl (tyX4_ok 9 (by decide)) rfl (by decide) (Nat.le_of_ble_eq_true rfl) (ps_137 _ _ _ _ _) dX4_openUp_52 (fun I_98 H locs eI_98 hP hD hS => ?_)
          have hG := GX.wI hG 137 rfl eI_98 (rg_w (rg_k (0 : Int32) 0 rfl) (by decide)) (by decide)
          have tt_99 : (I_98 132 this).toInt = (I_90 132 this).toInt := by rw [eI_98, pq_uf _ _ _ (by decide)]
          have tt_100 : (I_98 134 this).toInt = (I_90 134 this).toInt := by rw [eI_98, pq_uf _ _ _ (by decide)]
          have tt_101 : (I_98 129 this).toInt = (I_90 129 this).toInt := by rw [eI_98, pq_uf _ _ _ (by decide)]
          refine lv_aload_n hx hb dX4_openUp_55 rfl (lv_at hl 0 rfl) ?_
          refine lv_iload_n hx hb dX4_openUp_56 rfl (lv_at hl 1 rfl) ?_
          refine pk_v (va_runV (As := [.int a0]) (rest := []) ⟨hx, hb, hml, hown, hts⟩ (s_X4_await l D t σ I_98 J ri rj rq H.size tg hSH hG.1 this a0 hL_this hK_this) (cwV 1 hts (tw_V tw_781 tw_782 tw_783 tw_25 tw_784) rfl rfl rfl cv_yX4_await_1 ⟨Nat.le_of_ble_eq_true rfl, Nat.le_of_ble_eq_true rfl⟩) ⟨pq_blind, pq_recv hK hP hL_this hK_this (by decide) rfl, pq_pre hK hN hP hD⟩ rfl rfl hl.1 rfl (lv_room (Nat.le_of_ble_eq_true rfl)) dX4_openUp_57 ⟨Nat.le_of_ble_eq_true rfl, Nat.le_of_ble_eq_true rfl⟩) hD hS hA (fun σ1 μ1 H locs hw_103 hP hD hS => ?_)
          obtain ⟨I_104, ri_105, hu_106, hg_107, hp_109, hp_110⟩ := hw_103
          obtain ⟨hu_106a, hu_106b⟩ := Prod.mk.inj hu_106
          rw [hu_106a, hu_106b] at hP hD
          have tt_111 := hp_109
          have tt_112 := hp_110
          have hG := GX.tr hG hg_107 (by decide)
          have tt_113 : (I_104 132 this).toInt = (I_98 132 this).toInt := by rw [hg_107.2.1 132 (by decide) (by decide)]
          have tt_114 : (I_104 129 this).toInt = (I_98 129 this).toInt := by rw [hg_107.2.1 129 (by decide) (by decide)]
          subst hQ
          exact W.vret hx hb hr (fun t1 ht hW => ⟨⟨(σ, I_104, J, ri_105, rj, rq), rfl, ⟨I_104, ri_105, rfl, hG, (by omega), (ft_t (fun _ _ => rfl) hp_110)⟩, by rw [ht]; exact hP, va_K.moved hW.alike hK, hD⟩, hS.F ht⟩) hS.2.2 dX4_openUp_60
        · have tc_115 : (a0).toInt = 11 := congrArg Int32.toInt c_96
          have h_116 : rg a0 11 11 := rg_and (rg_full _) (rg_of_eq c_96 (rg_k (11 : Int32) 11 rfl)) (by decide)
          have uh_116 := h_116.1
          have vh_116 := h_116.2
          refine lv_iconst (v := 1) hx hb dX4_openUp_47 (by decide) ?_
          refine lv_goto (tgt := 52) hx hb dX4_openUp_48 (by decide) ?_
          refine pp_i (v := 1) (ty := .boolean) (C := RX4) (T := TX4) (N := 12) hx hb hts (tw_i inlX4) tyX4 tyX4_ok nmX4 hown hK hP hD hS hL_this hK_this (by decide) rfl 9 137 (by decide) (hts _ (tw_c tw_761)) rfl (tyX4_ok 9 (by decide)) rfl (by decide) (Nat.le_of_ble_eq_true rfl) (ps_137 _ _ _ _ _) dX4_openUp_52 (fun I_117 H locs eI_117 hP hD hS => ?_)
          have hG := GX.wI hG 137 rfl eI_117 (rg_w (rg_k (1 : Int32) 1 rfl) (by decide)) (by decide)
          have tt_118 : (I_117 132 this).toInt = (I_90 132 this).toInt := by rw [eI_117, pq_uf _ _ _ (by decide)]
          have tt_119 : (I_117 134 this).toInt = (I_90 134 this).toInt := by rw [eI_117, pq_uf _ _ _ (by decide)]
          have tt_120 : (I_117 129 this).toInt = (I_90 129 this).toInt := by rw [eI_117, pq_uf _ _ _ (by decide)]
          refine lv_aload_n hx hb dX4_openUp_55 rfl (lv_at hl 0 rfl) ?_
          refine lv_iload_n hx hb dX4_openUp_56 rfl (lv_at hl 1 rfl) ?_
          refine pk_v (va_runV (As := [.int a0]) (rest := []) ⟨hx, hb, hml, hown, hts⟩ (s_X4_await l D t σ I_117 J ri rj rq H.size tg hSH hG.1 this a0 hL_this hK_this) (cwV 1 hts (tw_V tw_781 tw_782 tw_783 tw_25 tw_784) rfl rfl rfl cv_yX4_await_1 ⟨Nat.le_of_ble_eq_true rfl, Nat.le_of_ble_eq_true rfl⟩) ⟨pq_blind, pq_recv hK hP hL_this hK_this (by decide) rfl, pq_pre hK hN hP hD⟩ rfl rfl hl.1 rfl (lv_room (Nat.le_of_ble_eq_true rfl)) dX4_openUp_57 ⟨Nat.le_of_ble_eq_true rfl, Nat.le_of_ble_eq_true rfl⟩) hD hS hA (fun σ1 μ1 H locs hw_122 hP hD hS => ?_)
          obtain ⟨I_123, ri_124, hu_125, hg_126, hp_128, hp_129⟩ := hw_122
          obtain ⟨hu_125a, hu_125b⟩ := Prod.mk.inj hu_125
          rw [hu_125a, hu_125b] at hP hD
          have tt_130 := hp_128
          have tt_131 := hp_129
          have hG := GX.tr hG hg_126 (by decide)
          have tt_132 : (I_123 132 this).toInt = (I_117 132 this).toInt := by rw [hg_126.2.1 132 (by decide) (by decide)]
          have tt_133 : (I_123 129 this).toInt = (I_117 129 this).toInt := by rw [hg_126.2.1 129 (by decide) (by decide)]
          subst hQ
          exact W.vret hx hb hr (fun t1 ht hW => ⟨⟨(σ, I_123, J, ri_124, rj, rq), rfl, ⟨I_123, ri_124, rfl, hG, (by omega), (ft_t (fun _ _ => rfl) hp_129)⟩, by rw [ht]; exact hP, va_K.moved hW.alike hK, hD⟩, hS.F ht⟩) hS.2.2 dX4_openUp_60
      · have tc_134 : (a0).toInt = 29 := congrArg Int32.toInt c_94
        have h_135 : rg a0 29 29 := rg_and (rg_full _) (rg_of_eq c_94 (rg_k (29 : Int32) 29 rfl)) (by decide)
        have uh_135 := h_135.1
        have vh_135 := h_135.2
        refine lv_aload_n hx hb dX4_openUp_30 rfl (lv_at hl 0 rfl) ?_
        refine lv_dup hx hb dX4_openUp_31 rfl ?_
        refine pg_f (v := .int (I_90 136 this)) (C := RX4) (T := TX4) (N := 12) hx hb hts (tw_i inlX4) hown hK hP hL_this hK_this (by decide) rfl 8 (by decide) (hts _ (tw_c tw_760)) rfl dX4_openUp_32 ?_
        refine lv_iconst (v := 1) hx hb dX4_openUp_35 (by decide) ?_
        refine lv_iadd hx hb dX4_openUp_36 ?_
        refine lv_topi (fun x_136 ex_136 => ?_)
        refine pp_i (v := x_136) (ty := .int) (C := RX4) (T := TX4) (N := 12) hx hb hts (tw_i inlX4) tyX4 tyX4_ok nmX4 hown hK hP hD hS hL_this hK_this (by decide) rfl 8 136 (by decide) (hts _ (tw_c tw_760)) rfl (tyX4_ok 8 (by decide)) rfl rfl (Nat.le_of_ble_eq_true rfl) (ps_136 _ _ _ _ _) dX4_openUp_37 (fun I_137 H locs eI_137 hP hD hS => ?_)
        have hG := GX.wI hG 136 rfl eI_137 (rg_w (rg_full _) (by decide)) (by decide)
        have tt_138 : (I_137 132 this).toInt = (I_90 132 this).toInt := by rw [eI_137, pq_uf _ _ _ (by decide)]
        have tt_139 : (I_137 134 this).toInt = (I_90 134 this).toInt := by rw [eI_137, pq_uf _ _ _ (by decide)]
        have tt_140 : (I_137 129 this).toInt = (I_90 129 this).toInt := by rw [eI_137, pq_uf _ _ _ (by decide)]
        refine lv_aload_n hx hb dX4_openUp_40 rfl (lv_at hl 0 rfl) ?_
        refine lv_iload_n hx hb dX4_openUp_41 rfl (lv_at hl 1 rfl) ?_
        refine lv_bipush (v := 11) hx hb dX4_openUp_42 (by decide) ?_
        refine lv_icmp_ne (tgt := 51) hx hb dX4_openUp_44 (by decide) (fun c_141 => ?_) (fun c_141 => ?_)
        · have tc_142 : (a0).toInt ≠ 11 := fun q => c_141 (Int32.toInt_inj.mp q)
          refine lv_iconst (v := 0) hx hb dX4_openUp_51 (by decide) ?_
          refine pp_i (v := 0) (ty := .boolean) (C := RX4) (T := TX4) (N := 12) hx hb hts (tw_i inlX4) tyX4 tyX4_ok nmX4 hown hK hP hD hS hL_this hK_this (by decide) rfl 9 137 (by decide) (hts _ (tw_c tw_761)) rfl (tyX4_ok 9 (by decide)) rfl (by decide) (Nat.le_of_ble_eq_true rfl) (ps_137 _ _ _ _ _) dX4_openUp_52 (fun I_143 H locs eI_143 hP hD hS => ?_)
          have hG := GX.wI hG 137 rfl eI_143 (rg_w (rg_k (0 : Int32) 0 rfl) (by decide)) (by decide)
          have tt_144 : (I_143 132 this).toInt = (I_137 132 this).toInt := by rw [eI_143, pq_uf _ _ _ (by decide)]
          have tt_145 : (I_143 134 this).toInt = (I_137 134 this).toInt := by rw [eI_143, pq_uf _ _ _ (by decide)]
          have tt_146 : (I_143 129 this).toInt = (I_137 129 this).toInt := by rw [eI_143, pq_uf _ _ _ (by decide)]
          refine lv_aload_n hx hb dX4_openUp_55 rfl (lv_at hl 0 rfl) ?_
          refine lv_iload_n hx hb dX4_openUp_56 rfl (lv_at hl 1 rfl) ?_
          refine pk_v (va_runV (As := [.int a0]) (rest := []) ⟨hx, hb, hml, hown, hts⟩ (s_X4_await l D t σ I_143 J ri rj rq H.size tg hSH hG.1 this a0 hL_this hK_this) (cwV 1 hts (tw_V tw_781 tw_782 tw_783 tw_25 tw_784) rfl rfl rfl cv_yX4_await_1 ⟨Nat.le_of_ble_eq_true rfl, Nat.le_of_ble_eq_true rfl⟩) ⟨pq_blind, pq_recv hK hP hL_this hK_this (by decide) rfl, pq_pre hK hN hP hD⟩ rfl rfl hl.1 rfl (lv_room (Nat.le_of_ble_eq_true rfl)) dX4_openUp_57 ⟨Nat.le_of_ble_eq_true rfl, Nat.le_of_ble_eq_true rfl⟩) hD hS hA (fun σ1 μ1 H locs hw_148 hP hD hS => ?_)
          obtain ⟨I_149, ri_150, hu_151, hg_152, hp_154, hp_155⟩ := hw_148
          obtain ⟨hu_151a, hu_151b⟩ := Prod.mk.inj hu_151
          rw [hu_151a, hu_151b] at hP hD
          have tt_156 := hp_154
          have tt_157 := hp_155
          have hG := GX.tr hG hg_152 (by decide)
          have tt_158 : (I_149 132 this).toInt = (I_143 132 this).toInt := by rw [hg_152.2.1 132 (by decide) (by decide)]
          have tt_159 : (I_149 129 this).toInt = (I_143 129 this).toInt := by rw [hg_152.2.1 129 (by decide) (by decide)]
          subst hQ
          exact W.vret hx hb hr (fun t1 ht hW => ⟨⟨(σ, I_149, J, ri_150, rj, rq), rfl, ⟨I_149, ri_150, rfl, hG, (by omega), (ft_t (fun _ _ => rfl) hp_155)⟩, by rw [ht]; exact hP, va_K.moved hW.alike hK, hD⟩, hS.F ht⟩) hS.2.2 dX4_openUp_60
        · have tc_160 : (a0).toInt = 11 := congrArg Int32.toInt c_141
          exact (rg_empty (rg_and h_135 (rg_of_eq c_141 (rg_k (11 : Int32) 11 rfl)) (lo := 29) (hi := 11) (by decide)) (by decide)).elim
  exact go _ _ _ hP hD hS hl

set_option maxHeartbeats 4000000 in
set_option maxRecDepth 100000 in
theorem s_X4_readOne (l : Launch) (D : va_G) (t : pq_T) (σ : pq_S) (I : Nat → Nat → Int32) (J : Nat → Nat → Int64) (ri : Nat → Nat → Int32) (rj : Nat → Nat → Int64) (rq : Nat → Nat → Option Nat) (sz : Nat) (tg : Nat → Nat) (hSH : SH σ tg) (hG0 : GS tg σ I ri rq) (this : Nat) (hL_this : this ∈ σ.1) (hK_this : σ.2.1 this = 4) (this_scanner : Nat) (hR_this_scanner : σ.2.2.1 128 this = some this_scanner) (hL_this_scanner : this_scanner ∈ σ.1) (hK_this_scanner : σ.2.1 this_scanner = 6) : MetI l yX4_readOne (wa yX4_readOne cX4_readOne 2 (some .boolean)) ({ frames := 2, cells := 0, slots := 0, locals := 42 }) [.ref this] D t σ (I, J, ri, rj, rq) sz 0 0 (fun (r : Int32) (u : pq_S × pq_M) => ∃ I' : Nat → Nat → Int32, ∃ ri' : Nat → Nat → Int32, u = (σ, I', J, ri', rj, rq) ∧ GX [134, 129, 132] tg σ I ri rj I' ri' rj rq ∧ ((I' 132 this).toInt + (I' 134 this).toInt ≤ (I 132 this).toInt + (I 134 this).toInt + 1 ∧ ((I 194 this_scanner).toInt = 33 → (I' 132 this).toInt + (I' 134 this).toInt ≤ (I 132 this).toInt + (I 134 this).toInt)) ∧ (∀ q, tg q = 258 → ri' q = ri q) ∧ ((r = 1 ∧ True) ∨ (r = 0 ∧ True))) := by
  refine Met.ofW (cc := cX4_readOne) (maxL := 2) (ret := (some .boolean)) (by decide) rfl ?_
  intro p e s m args below meth c s₁ B hml hv
  obtain ⟨rfl, hsz, hP, hK, hD0, hN⟩ := hv
  have hx := B.exec
  have hb := B.bytes
  have hr := B.returns
  have hts := atoms_spec (ws := (wa yX4_readOne cX4_readOne 2 (some .boolean))) B.pre
  have hown : s.vm.findClass RX4 = some m.cls := findClass_of_methodNamed B.named
  have hlocks := B.notSynchronized
  subst hsz
  have hD : va_D (pq_B t σ (I, J, ri, rj, rq) s.heap.size) (pq_P t σ (I, J, ri, rj, rq)) := hD0.self
  generalize hAe : pq_B t σ (I, J, ri, rj, rq) s.heap.size = A at hD ⊢
  have hA : ∀ q : Nat, s.heap.size ≤ q → A q := fun q h => by rw [← hAe]; exact Or.inr h
  have hS : va_S A s.heap s.heap [] := va_S.rf
  have hG : GX [134, 129, 132] tg σ I ri rj I ri rj rq := ⟨hG0, fun _ _ _ => rfl, fun _ _ _ _ _ => rfl, fun _ _ _ _ _ => rfl⟩
  have hl := lv_entry ([.ref this]) (n := 2) (Nat.le_of_ble_eq_true rfl)
  rw [lg_entry_eq]
  generalize (lg_sl ([.ref this]) ++ List.replicate (2 - (lg_sl ([.ref this])).length) Slot.unset).toArray = ls at hl ⊢
  have hl : lv_has ls 2 [(0, .ref this)] := hl
  refine q_gen (fun Q hQ => ?_)
  have go : ∀ (H : Heap) (locs : List Loc) (ls : Array Slot), va_P D vwCl (pq_P t σ (I, J, ri, rj, rq)) H → va_D A (pq_P t σ (I, J, ri, rj, rq)) → va_S A s.heap H locs → lv_has ls 2 [(0, .ref this)] → W p l e ({ frames := 2, cells := 0, slots := 0, locals := 42 } : Room) s m (List.toArray ([.ref this] : List Value)) below meth c H locs 0 0 Q (F0 m 0 ls []) := by
    intro H locs ls hP hD hS hl
    refine lv_aload_n hx hb dX4_readOne_0 rfl (lv_at hl 0 rfl) ?_
    refine pg_f (v := .ref this_scanner) (C := RX4) (T := TX4) (N := 12) hx hb hts (tw_i inlX4) hown hK hP hL_this hK_this (by decide) rfl 0 (by decide) (hts _ (tw_c tw_154)) (pq_hv rfl hR_this_scanner) dX4_readOne_1 ?_
    refine pg_f (v := .int (I 194 this_scanner)) (C := RX6) (T := TX6) (N := 6) hx hb hts (tw_i inlX6) hown hK hP hL_this_scanner hK_this_scanner (by decide) rfl 2 (by decide) (hts _ (tw_c tw_657)) rfl dX4_readOne_4 ?_
    refine lv_istore_n (lv' := [(1, .int (I 194 this_scanner)), (0, .ref this)]) hx hb dX4_readOne_7 rfl hl (by decide) rfl (fun ls hl => ?_)
    refine lv_iload_n hx hb dX4_readOne_8 rfl (lv_at hl 0 rfl) ?_
    refine lv_bipush (v := 18) hx hb dX4_readOne_9 (by decide) ?_
    refine lv_icmp_ne (tgt := 45) hx hb dX4_readOne_11 (by decide) (fun c_1 => ?_) (fun c_1 => ?_)
    · have tc_2 : (I 194 this_scanner).toInt ≠ 18 := fun q => c_1 (Int32.toInt_inj.mp q)
      refine lv_iload_n hx hb dX4_readOne_45 rfl (lv_at hl 0 rfl) ?_
      refine pk_i (va_runS (As := [.int (I 194 this_scanner)]) (rest := []) ⟨hx, hb, hml, hown, hts⟩ (s_X4_isName l D t σ I J ri rj rq H.size tg hSH hG.1 (I 194 this_scanner)) (va_cwS 1 hts (tw_S tw_774 tw_775 tw_25 tw_776) rfl rfl rfl cd_yX4_isName_1 ⟨Nat.le_of_ble_eq_true rfl, Nat.le_of_ble_eq_true rfl⟩) ⟨pq_blind, pq_pre hK hN hP hD⟩ rfl rfl hl.1 rfl (lv_room (Nat.le_of_ble_eq_true rfl)) dX4_readOne_46 ⟨Nat.le_of_ble_eq_true rfl, Nat.le_of_ble_eq_true rfl⟩) hD hS hA (fun x_3 σ1 μ1 H locs hw_4 hP hD hS => ?_)
      obtain ⟨hu_5, hr_7⟩ := hw_4
      obtain ⟨hu_5a, hu_5b⟩ := Prod.mk.inj hu_5
      rw [hu_5a, hu_5b] at hP hD
      have h_8 : rg x_3 0 1 := by rcases hr_7 with ⟨q, -⟩ | ⟨q, -⟩ <;> rw [q] <;> exact ⟨by decide, by decide⟩
      have uh_8 := h_8.1
      have vh_8 := h_8.2
      refine lv_if_eq (tgt := 60) hx hb dX4_readOne_49 (by decide) (fun c_9 => ?_) (fun c_9 => ?_)
      · have f_10 := (hr_7.resolve_left (fun q => absurd (q.1.symm.trans c_9) (by decide))).2
        have tc_11 : (x_3).toInt = 0 := congrArg Int32.toInt c_9
        have h_12 : rg x_3 0 0 := rg_and h_8 (rg_of_eq c_9 (rg_k (0 : Int32) 0 rfl)) (by decide)
        have uh_12 := h_12.1
        have vh_12 := h_12.2
        refine lv_iload_n hx hb dX4_readOne_60 rfl (lv_at hl 0 rfl) ?_
        refine lv_bipush (v := 26) hx hb dX4_readOne_61 (by decide) ?_
        refine lv_icmp_eq (tgt := 85) hx hb dX4_readOne_63 (by decide) (fun c_13 => ?_) (fun c_13 => ?_)
        · have tc_14 : (I 194 this_scanner).toInt = 26 := congrArg Int32.toInt c_13
          have h_15 : rg (I 194 this_scanner) 26 26 := rg_and (rg_full _) (rg_of_eq c_13 (rg_k (26 : Int32) 26 rfl)) (by decide)
          have uh_15 := h_15.1
          have vh_15 := h_15.2
          refine lv_aload_n hx hb dX4_readOne_85 rfl (lv_at hl 1 rfl) ?_
          refine lv_iload_n hx hb dX4_readOne_86 rfl (lv_at hl 0 rfl) ?_
          refine lv_bipush (v := 26) hx hb dX4_readOne_87 (by decide) ?_
          refine lv_icmp_ne (tgt := 97) hx hb dX4_readOne_89 (by decide) (fun c_16 => ?_) (fun c_16 => ?_)
          · have tc_17 : (I 194 this_scanner).toInt ≠ 26 := fun q => c_16 (Int32.toInt_inj.mp q)
            exact (rg_empty (rg_ne c_16 h_15 26 rfl (lo := 27) (hi := 25) (by decide)) (by decide)).elim
          · have tc_18 : (I 194 this_scanner).toInt = 26 := congrArg Int32.toInt c_16
            refine lv_bipush (v := 35) hx hb dX4_readOne_92 (by decide) ?_
            refine lv_goto (tgt := 98) hx hb dX4_readOne_94 (by decide) ?_
            refine pk_v (va_runV (As := [.int 35]) (rest := []) ⟨hx, hb, hml, hown, hts⟩ (s_X4_openUp l D t σ I J ri rj rq H.size tg hSH hG.1 this (35 : Int32) hL_this hK_this) (cwV 1 hts (tw_V tw_777 tw_778 tw_779 tw_25 tw_780) rfl rfl rfl cv_yX4_openUp_1 ⟨Nat.le_of_ble_eq_true rfl, Nat.le_of_ble_eq_true rfl⟩) ⟨pq_blind, pq_recv hK hP hL_this hK_this (by decide) rfl, pq_pre hK hN hP hD⟩ rfl rfl hl.1 rfl (lv_room (Nat.le_of_ble_eq_true rfl)) dX4_readOne_98 ⟨Nat.le_of_ble_eq_true rfl, Nat.le_of_ble_eq_true rfl⟩) hD hS hA (fun σ1 μ1 H locs hw_20 hP hD hS => ?_)
            obtain ⟨I_21, ri_22, hu_23, hg_24, hp_26, hp_27⟩ := hw_20
            obtain ⟨hu_23a, hu_23b⟩ := Prod.mk.inj hu_23
            rw [hu_23a, hu_23b] at hP hD
            have tt_28 := hp_26
            have tt_29 := hp_27
            have hG := GX.tr hG hg_24 (by decide)
            have tt_30 : (I_21 132 this).toInt = (I 132 this).toInt := by rw [hg_24.2.1 132 (by decide) (by decide)]
            have tt_31 : (I_21 197 this_scanner).toInt = (I 197 this_scanner).toInt := by rw [hg_24.2.1 197 (by decide) (by decide)]
            have tt_32 : (I_21 194 this_scanner).toInt = (I 194 this_scanner).toInt := by rw [hg_24.2.1 194 (by decide) (by decide)]
            refine lv_goto (tgt := 109) hx hb dX4_readOne_101 (by decide) ?_
            refine lv_iconst (v := 1) hx hb dX4_readOne_109 (by decide) ?_
            subst hQ
            exact W.zret (v := 1) hx hb hr (by decide) (fun t1 ht hW => ⟨⟨1, (σ, I_21, J, ri_22, rj, rq), rfl, ⟨I_21, ri_22, rfl, hG, (by omega), (ft_t (fun _ _ => rfl) hp_27), (Or.inl ⟨rfl, trivial⟩)⟩, by rw [ht]; exact hP, va_K.moved hW.alike hK, hD⟩, hS.F ht⟩) hS.2.2 dX4_readOne_110
        · have tc_33 : (I 194 this_scanner).toInt ≠ 26 := fun q => c_13 (Int32.toInt_inj.mp q)
          refine lv_iload_n hx hb dX4_readOne_66 rfl (lv_at hl 0 rfl) ?_
          refine lv_bipush (v := 29) hx hb dX4_readOne_67 (by decide) ?_
          refine lv_icmp_eq (tgt := 85) hx hb dX4_readOne_69 (by decide) (fun c_34 => ?_) (fun c_34 => ?_)
          · have tc_35 : (I 194 this_scanner).toInt = 29 := congrArg Int32.toInt c_34
            have h_36 : rg (I 194 this_scanner) 29 29 := rg_and (rg_full _) (rg_of_eq c_34 (rg_k (29 : Int32) 29 rfl)) (by decide)
            have uh_36 := h_36.1
            have vh_36 := h_36.2
            refine lv_aload_n hx hb dX4_readOne_85 rfl (lv_at hl 1 rfl) ?_
            refine lv_iload_n hx hb dX4_readOne_86 rfl (lv_at hl 0 rfl) ?_
            refine lv_bipush (v := 26) hx hb dX4_readOne_87 (by decide) ?_
            refine lv_icmp_ne (tgt := 97) hx hb dX4_readOne_89 (by decide) (fun c_37 => ?_) (fun c_37 => ?_)
            · have tc_38 : (I 194 this_scanner).toInt ≠ 26 := fun q => c_37 (Int32.toInt_inj.mp q)
              refine lv_iload_n hx hb dX4_readOne_97 rfl (lv_at hl 0 rfl) ?_
              refine pk_v (va_runV (As := [.int (I 194 this_scanner)]) (rest := []) ⟨hx, hb, hml, hown, hts⟩ (s_X4_openUp l D t σ I J ri rj rq H.size tg hSH hG.1 this (I 194 this_scanner) hL_this hK_this) (cwV 1 hts (tw_V tw_777 tw_778 tw_779 tw_25 tw_780) rfl rfl rfl cv_yX4_openUp_1 ⟨Nat.le_of_ble_eq_true rfl, Nat.le_of_ble_eq_true rfl⟩) ⟨pq_blind, pq_recv hK hP hL_this hK_this (by decide) rfl, pq_pre hK hN hP hD⟩ rfl rfl hl.1 rfl (lv_room (Nat.le_of_ble_eq_true rfl)) dX4_readOne_98 ⟨Nat.le_of_ble_eq_true rfl, Nat.le_of_ble_eq_true rfl⟩) hD hS hA (fun σ1 μ1 H locs hw_40 hP hD hS => ?_)
              obtain ⟨I_41, ri_42, hu_43, hg_44, hp_46, hp_47⟩ := hw_40
              obtain ⟨hu_43a, hu_43b⟩ := Prod.mk.inj hu_43
              rw [hu_43a, hu_43b] at hP hD
              have tt_48 := hp_46
              have tt_49 := hp_47
              have hG := GX.tr hG hg_44 (by decide)
              have tt_50 : (I_41 132 this).toInt = (I 132 this).toInt := by rw [hg_44.2.1 132 (by decide) (by decide)]
              have tt_51 : (I_41 197 this_scanner).toInt = (I 197 this_scanner).toInt := by rw [hg_44.2.1 197 (by decide) (by decide)]
              have tt_52 : (I_41 194 this_scanner).toInt = (I 194 this_scanner).toInt := by rw [hg_44.2.1 194 (by decide) (by decide)]
              refine lv_goto (tgt := 109) hx hb dX4_readOne_101 (by decide) ?_
              refine lv_iconst (v := 1) hx hb dX4_readOne_109 (by decide) ?_
              subst hQ
              exact W.zret (v := 1) hx hb hr (by decide) (fun t1 ht hW => ⟨⟨1, (σ, I_41, J, ri_42, rj, rq), rfl, ⟨I_41, ri_42, rfl, hG, (by omega), (ft_t (fun _ _ => rfl) hp_47), (Or.inl ⟨rfl, trivial⟩)⟩, by rw [ht]; exact hP, va_K.moved hW.alike hK, hD⟩, hS.F ht⟩) hS.2.2 dX4_readOne_110
            · have tc_53 : (I 194 this_scanner).toInt = 26 := congrArg Int32.toInt c_37
              exact (rg_empty (rg_and h_36 (rg_of_eq c_37 (rg_k (26 : Int32) 26 rfl)) (lo := 29) (hi := 26) (by decide)) (by decide)).elim
          · have tc_54 : (I 194 this_scanner).toInt ≠ 29 := fun q => c_34 (Int32.toInt_inj.mp q)
            refine lv_iload_n hx hb dX4_readOne_72 rfl (lv_at hl 0 rfl) ?_
            refine lv_bipush (v := 11) hx hb dX4_readOne_73 (by decide) ?_
            refine lv_icmp_ne (tgt := 104) hx hb dX4_readOne_75 (by decide) (fun c_55 => ?_) (fun c_55 => ?_)
            · have tc_56 : (I 194 this_scanner).toInt ≠ 11 := fun q => c_55 (Int32.toInt_inj.mp q)
              refine lv_aload_n hx hb dX4_readOne_104 rfl (lv_at hl 1 rfl) ?_
              refine lv_iconst (v := 1) hx hb dX4_readOne_105 (by decide) ?_
              refine pk_v (va_runV (As := [.int 1]) (rest := []) ⟨hx, hb, hml, hown, hts⟩ (s_X4_refuse l D t σ I J ri rj rq H.size tg hSH hG.1 this (1 : Int32) hL_this hK_this (rg_w (rg_k (1 : Int32) 1 rfl) (by decide))) (cwV 1 hts (tw_V tw_748 tw_749 tw_750 tw_25 tw_751) rfl rfl rfl cv_yX4_refuse_1 ⟨Nat.le_of_ble_eq_true rfl, Nat.le_of_ble_eq_true rfl⟩) ⟨pq_blind, pq_recv hK hP hL_this hK_this (by decide) rfl, pq_pre hK hN hP hD⟩ rfl rfl hl.1 rfl (lv_room (Nat.le_of_ble_eq_true rfl)) dX4_readOne_106 ⟨Nat.le_of_ble_eq_true rfl, Nat.le_of_ble_eq_true rfl⟩) hD hS hA (fun σ1 μ1 H locs hw_58 hP hD hS => ?_)
              obtain ⟨I_59, hu_60, hg_61, hp_63⟩ := hw_58
              obtain ⟨hu_60a, hu_60b⟩ := Prod.mk.inj hu_60
              rw [hu_60a, hu_60b] at hP hD
              have tt_64 := hp_63
              have hG := GX.tr hG hg_61 (by decide)
              have tt_65 : (I_59 132 this).toInt = (I 132 this).toInt := by rw [hg_61.2.1 132 (by decide) (by decide)]
              have tt_66 : (I_59 134 this).toInt = (I 134 this).toInt := by rw [hg_61.2.1 134 (by decide) (by decide)]
              have tt_67 : (I_59 197 this_scanner).toInt = (I 197 this_scanner).toInt := by rw [hg_61.2.1 197 (by decide) (by decide)]
              have tt_68 : (I_59 194 this_scanner).toInt = (I 194 this_scanner).toInt := by rw [hg_61.2.1 194 (by decide) (by decide)]
              refine lv_iconst (v := 1) hx hb dX4_readOne_109 (by decide) ?_
              subst hQ
              exact W.zret (v := 1) hx hb hr (by decide) (fun t1 ht hW => ⟨⟨1, (σ, I_59, J, ri, rj, rq), rfl, ⟨I_59, ri, rfl, hG, (by omega), (fun _ _ => rfl), (Or.inl ⟨rfl, trivial⟩)⟩, by rw [ht]; exact hP, va_K.moved hW.alike hK, hD⟩, hS.F ht⟩) hS.2.2 dX4_readOne_110
            · have tc_69 : (I 194 this_scanner).toInt = 11 := congrArg Int32.toInt c_55
              have h_70 : rg (I 194 this_scanner) 11 11 := rg_and (rg_full _) (rg_of_eq c_55 (rg_k (11 : Int32) 11 rfl)) (by decide)
              have uh_70 := h_70.1
              have vh_70 := h_70.2
              refine lv_aload_n hx hb dX4_readOne_78 rfl (lv_at hl 1 rfl) ?_
              refine pg_f (v := .int (I 137 this)) (C := RX4) (T := TX4) (N := 12) hx hb hts (tw_i inlX4) hown hK hP hL_this hK_this (by decide) rfl 9 (by decide) (hts _ (tw_c tw_761)) rfl dX4_readOne_79 ?_
              have h_71 : rg (I 137 this) 0 1 := GX.rI hG 137 rfl
              have uh_71 := h_71.1
              have vh_71 := h_71.2
              refine lv_if_eq (tgt := 104) hx hb dX4_readOne_82 (by decide) (fun c_72 => ?_) (fun c_72 => ?_)
              · have tc_73 : (I 137 this).toInt = 0 := congrArg Int32.toInt c_72
                have h_74 : rg (I 137 this) 0 0 := rg_and h_71 (rg_of_eq c_72 (rg_k (0 : Int32) 0 rfl)) (by decide)
                have uh_74 := h_74.1
                have vh_74 := h_74.2
                refine lv_aload_n hx hb dX4_readOne_104 rfl (lv_at hl 1 rfl) ?_
                refine lv_iconst (v := 1) hx hb dX4_readOne_105 (by decide) ?_
                refine pk_v (va_runV (As := [.int 1]) (rest := []) ⟨hx, hb, hml, hown, hts⟩ (s_X4_refuse l D t σ I J ri rj rq H.size tg hSH hG.1 this (1 : Int32) hL_this hK_this (rg_w (rg_k (1 : Int32) 1 rfl) (by decide))) (cwV 1 hts (tw_V tw_748 tw_749 tw_750 tw_25 tw_751) rfl rfl rfl cv_yX4_refuse_1 ⟨Nat.le_of_ble_eq_true rfl, Nat.le_of_ble_eq_true rfl⟩) ⟨pq_blind, pq_recv hK hP hL_this hK_this (by decide) rfl, pq_pre hK hN hP hD⟩ rfl rfl hl.1 rfl (lv_room (Nat.le_of_ble_eq_true rfl)) dX4_readOne_106 ⟨Nat.le_of_ble_eq_true rfl, Nat.le_of_ble_eq_true rfl⟩) hD hS hA (fun σ1 μ1 H locs hw_76 hP hD hS => ?_)
                obtain ⟨I_77, hu_78, hg_79, hp_81⟩ := hw_76
                obtain ⟨hu_78a, hu_78b⟩ := Prod.mk.inj hu_78
                rw [hu_78a, hu_78b] at hP hD
                have tt_82 := hp_81
                have hG := GX.tr hG hg_79 (by decide)
                have tt_83 : (I_77 132 this).toInt = (I 132 this).toInt := by rw [hg_79.2.1 132 (by decide) (by decide)]
                have tt_84 : (I_77 134 this).toInt = (I 134 this).toInt := by rw [hg_79.2.1 134 (by decide) (by decide)]
                have tt_85 : (I_77 197 this_scanner).toInt = (I 197 this_scanner).toInt := by rw [hg_79.2.1 197 (by decide) (by decide)]
                have tt_86 : (I_77 194 this_scanner).toInt = (I 194 this_scanner).toInt := by rw [hg_79.2.1 194 (by decide) (by decide)]
                refine lv_iconst (v := 1) hx hb dX4_readOne_109 (by decide) ?_
                subst hQ
                exact W.zret (v := 1) hx hb hr (by decide) (fun t1 ht hW => ⟨⟨1, (σ, I_77, J, ri, rj, rq), rfl, ⟨I_77, ri, rfl, hG, (by omega), (fun _ _ => rfl), (Or.inl ⟨rfl, trivial⟩)⟩, by rw [ht]; exact hP, va_K.moved hW.alike hK, hD⟩, hS.F ht⟩) hS.2.2 dX4_readOne_110
              · have tc_87 : (I 137 this).toInt ≠ 0 := fun q => c_72 (Int32.toInt_inj.mp q)
                have h_88 : rg (I 137 this) 1 1 := rg_ne c_72 h_71 0 rfl (by decide)
                have uh_88 := h_88.1
                have vh_88 := h_88.2
                refine lv_aload_n hx hb dX4_readOne_85 rfl (lv_at hl 1 rfl) ?_
                refine lv_iload_n hx hb dX4_readOne_86 rfl (lv_at hl 0 rfl) ?_
                refine lv_bipush (v := 26) hx hb dX4_readOne_87 (by decide) ?_
                refine lv_icmp_ne (tgt := 97) hx hb dX4_readOne_89 (by decide) (fun c_89 => ?_) (fun c_89 => ?_)
                · have tc_90 : (I 194 this_scanner).toInt ≠ 26 := fun q => c_89 (Int32.toInt_inj.mp q)
                  refine lv_iload_n hx hb dX4_readOne_97 rfl (lv_at hl 0 rfl) ?_
                  refine pk_v (va_runV (As := [.int (I 194 this_scanner)]) (rest := []) ⟨hx, hb, hml, hown, hts⟩ (s_X4_openUp l D t σ I J ri rj rq H.size tg hSH hG.1 this (I 194 this_scanner) hL_this hK_this) (cwV 1 hts (tw_V tw_777 tw_778 tw_779 tw_25 tw_780) rfl rfl rfl cv_yX4_openUp_1 ⟨Nat.le_of_ble_eq_true rfl, Nat.le_of_ble_eq_true rfl⟩) ⟨pq_blind, pq_recv hK hP hL_this hK_this (by decide) rfl, pq_pre hK hN hP hD⟩ rfl rfl hl.1 rfl (lv_room (Nat.le_of_ble_eq_true rfl)) dX4_readOne_98 ⟨Nat.le_of_ble_eq_true rfl, Nat.le_of_ble_eq_true rfl⟩) hD hS hA (fun σ1 μ1 H locs hw_92 hP hD hS => ?_)
                  obtain ⟨I_93, ri_94, hu_95, hg_96, hp_98, hp_99⟩ := hw_92
                  obtain ⟨hu_95a, hu_95b⟩ := Prod.mk.inj hu_95
                  rw [hu_95a, hu_95b] at hP hD
                  have tt_100 := hp_98
                  have tt_101 := hp_99
                  have hG := GX.tr hG hg_96 (by decide)
                  have tt_102 : (I_93 132 this).toInt = (I 132 this).toInt := by rw [hg_96.2.1 132 (by decide) (by decide)]
                  have tt_103 : (I_93 197 this_scanner).toInt = (I 197 this_scanner).toInt := by rw [hg_96.2.1 197 (by decide) (by decide)]
                  have tt_104 : (I_93 194 this_scanner).toInt = (I 194 this_scanner).toInt := by rw [hg_96.2.1 194 (by decide) (by decide)]
                  refine lv_goto (tgt := 109) hx hb dX4_readOne_101 (by decide) ?_
                  refine lv_iconst (v := 1) hx hb dX4_readOne_109 (by decide) ?_
                  subst hQ
                  exact W.zret (v := 1) hx hb hr (by decide) (fun t1 ht hW => ⟨⟨1, (σ, I_93, J, ri_94, rj, rq), rfl, ⟨I_93, ri_94, rfl, hG, (by omega), (ft_t (fun _ _ => rfl) hp_99), (Or.inl ⟨rfl, trivial⟩)⟩, by rw [ht]; exact hP, va_K.moved hW.alike hK, hD⟩, hS.F ht⟩) hS.2.2 dX4_readOne_110
                · have tc_105 : (I 194 this_scanner).toInt = 26 := congrArg Int32.toInt c_89
                  exact (rg_empty (rg_and h_70 (rg_of_eq c_89 (rg_k (26 : Int32) 26 rfl)) (lo := 26) (hi := 11) (by decide)) (by decide)).elim
      · have f_106 := (hr_7.resolve_right (fun q => c_9 q.1)).2
        have uf_106 := f_106.1
        have vf_106 := f_106.2
        have tc_107 : (x_3).toInt ≠ 0 := fun q => c_9 (Int32.toInt_inj.mp q)
        have h_108 : rg x_3 1 1 := rg_ne c_9 h_8 0 rfl (by decide)
        have uh_108 := h_108.1
        have vh_108 := h_108.2
        refine lv_aload_n hx hb dX4_readOne_52 rfl (lv_at hl 1 rfl) ?_
        refine lv_iload_n hx hb dX4_readOne_53 rfl (lv_at hl 0 rfl) ?_
        refine lv_ineg hx hb dX4_readOne_54 ?_
        refine lv_topi (fun x_109 ex_109 => ?_)
        have h_110 : rg x_109 (-17) (-12) := rg_of_eq ex_109 (rg_neg f_106 (by decide))
        have uh_110 := h_110.1
        have vh_110 := h_110.2
        refine pk_v (va_runV (As := [.int x_109]) (rest := []) ⟨hx, hb, hml, hown, hts⟩ (s_X4_emit l D t σ I J ri rj rq H.size tg hSH hG.1 this x_109 hL_this hK_this) (cwV 1 hts (tw_V tw_769 tw_770 tw_771 tw_25 tw_772) rfl rfl rfl cv_yX4_emit_1 ⟨Nat.le_of_ble_eq_true rfl, Nat.le_of_ble_eq_true rfl⟩) ⟨pq_blind, pq_recv hK hP hL_this hK_this (by decide) rfl, pq_pre hK hN hP hD⟩ rfl rfl hl.1 rfl (lv_room (Nat.le_of_ble_eq_true rfl)) dX4_readOne_55 ⟨Nat.le_of_ble_eq_true rfl, Nat.le_of_ble_eq_true rfl⟩) hD hS hA (fun σ1 μ1 H locs hw_112 hP hD hS => ?_)
        obtain ⟨I_113, ri_114, hu_115, hg_116, hp_118, hp_119⟩ := hw_112
        obtain ⟨hu_115a, hu_115b⟩ := Prod.mk.inj hu_115
        rw [hu_115a, hu_115b] at hP hD
        have tt_120 := hp_118
        have tt_121 := hp_119
        have hG := GX.tr hG hg_116 (by decide)
        have tt_122 : (I_113 134 this).toInt = (I 134 this).toInt := by rw [hg_116.2.1 134 (by decide) (by decide)]
        have tt_123 : (I_113 129 this).toInt = (I 129 this).toInt := by rw [hg_116.2.1 129 (by decide) (by decide)]
        have tt_124 : (I_113 197 this_scanner).toInt = (I 197 this_scanner).toInt := by rw [hg_116.2.1 197 (by decide) (by decide)]
        have tt_125 : (I_113 194 this_scanner).toInt = (I 194 this_scanner).toInt := by rw [hg_116.2.1 194 (by decide) (by decide)]
        refine lv_iconst (v := 0) hx hb dX4_readOne_58 (by decide) ?_
        subst hQ
        exact W.zret (v := 0) hx hb hr (by decide) (fun t1 ht hW => ⟨⟨0, (σ, I_113, J, ri_114, rj, rq), rfl, ⟨I_113, ri_114, rfl, hG, (by omega), (ft_t (fun _ _ => rfl) hp_119), (Or.inr ⟨rfl, trivial⟩)⟩, by rw [ht]; exact hP, va_K.moved hW.alike hK, hD⟩, hS.F ht⟩) hS.2.2 dX4_readOne_59
    · have tc_126 : (I 194 this_scanner).toInt = 18 := congrArg Int32.toInt c_1
      have h_127 : rg (I 194 this_scanner) 18 18 := rg_and (rg_full _) (rg_of_eq c_1 (rg_k (18 : Int32) 18 rfl)) (by decide)
      have uh_127 := h_127.1
      have vh_127 := h_127.2
      refine lv_aload_n hx hb dX4_readOne_14 rfl (lv_at hl 1 rfl) ?_
      refine pg_f (v := .ref this_scanner) (C := RX4) (T := TX4) (N := 12) hx hb hts (tw_i inlX4) hown hK hP hL_this hK_this (by decide) rfl 0 (by decide) (hts _ (tw_c tw_154)) (pq_hv rfl hR_this_scanner) dX4_readOne_15 ?_
      refine pg_f (v := .int (I 196 this_scanner)) (C := RX6) (T := TX6) (N := 6) hx hb hts (tw_i inlX6) hown hK hP hL_this_scanner hK_this_scanner (by decide) rfl 4 (by decide) (hts _ (tw_c tw_768)) rfl dX4_readOne_18 ?_
      refine lv_sipush (v := 9999) hx hb dX4_readOne_21 (by decide) ?_
      refine lv_icmp_le (tgt := 32) hx hb dX4_readOne_24 (by decide) (fun c_128 => ?_) (fun c_128 => ?_)
      · have tc_129 : (I 196 this_scanner).toInt ≤ 9999 := Int32.le_iff_toInt_le.mp c_128
        have h_130 : rg (I 196 this_scanner) (-2147483648) 9999 := rg_le1 c_128 (rg_full _) (rg_k (9999 : Int32) 9999 rfl) (by decide)
        have uh_130 := h_130.1
        have vh_130 := h_130.2
        refine lv_aload_n hx hb dX4_readOne_32 rfl (lv_at hl 1 rfl) ?_
        refine lv_aload_n hx hb dX4_readOne_33 rfl (lv_at hl 1 rfl) ?_
        refine pg_f (v := .ref this_scanner) (C := RX4) (T := TX4) (N := 12) hx hb hts (tw_i inlX4) hown hK hP hL_this hK_this (by decide) rfl 0 (by decide) (hts _ (tw_c tw_154)) (pq_hv rfl hR_this_scanner) dX4_readOne_34 ?_
        refine pg_f (v := .int (I 196 this_scanner)) (C := RX6) (T := TX6) (N := 6) hx hb hts (tw_i inlX6) hown hK hP hL_this_scanner hK_this_scanner (by decide) rfl 4 (by decide) (hts _ (tw_c tw_768)) rfl dX4_readOne_37 ?_
        refine pk_v (va_runV (As := [.int (I 196 this_scanner)]) (rest := []) ⟨hx, hb, hml, hown, hts⟩ (s_X4_emit l D t σ I J ri rj rq H.size tg hSH hG.1 this (I 196 this_scanner) hL_this hK_this) (cwV 1 hts (tw_V tw_769 tw_770 tw_771 tw_25 tw_772) rfl rfl rfl cv_yX4_emit_1 ⟨Nat.le_of_ble_eq_true rfl, Nat.le_of_ble_eq_true rfl⟩) ⟨pq_blind, pq_recv hK hP hL_this hK_this (by decide) rfl, pq_pre hK hN hP hD⟩ rfl rfl hl.1 rfl (lv_room (Nat.le_of_ble_eq_true rfl)) dX4_readOne_40 ⟨Nat.le_of_ble_eq_true rfl, Nat.le_of_ble_eq_true rfl⟩) hD hS hA (fun σ1 μ1 H locs hw_132 hP hD hS => ?_)
        obtain ⟨I_133, ri_134, hu_135, hg_136, hp_138, hp_139⟩ := hw_132
        obtain ⟨hu_135a, hu_135b⟩ := Prod.mk.inj hu_135
        rw [hu_135a, hu_135b] at hP hD
        have tt_140 := hp_138
        have tt_141 := hp_139
        have hG := GX.tr hG hg_136 (by decide)
        have tt_142 : (I_133 134 this).toInt = (I 134 this).toInt := by rw [hg_136.2.1 134 (by decide) (by decide)]
        have tt_143 : (I_133 129 this).toInt = (I 129 this).toInt := by rw [hg_136.2.1 129 (by decide) (by decide)]
        have tt_144 : (I_133 197 this_scanner).toInt = (I 197 this_scanner).toInt := by rw [hg_136.2.1 197 (by decide) (by decide)]
        have tt_145 : (I_133 194 this_scanner).toInt = (I 194 this_scanner).toInt := by rw [hg_136.2.1 194 (by decide) (by decide)]
        refine lv_iconst (v := 0) hx hb dX4_readOne_43 (by decide) ?_
        subst hQ
        exact W.zret (v := 0) hx hb hr (by decide) (fun t1 ht hW => ⟨⟨0, (σ, I_133, J, ri_134, rj, rq), rfl, ⟨I_133, ri_134, rfl, hG, (by omega), (ft_t (fun _ _ => rfl) hp_139), (Or.inr ⟨rfl, trivial⟩)⟩, by rw [ht]; exact hP, va_K.moved hW.alike hK, hD⟩, hS.F ht⟩) hS.2.2 dX4_readOne_44
      · have tc_146 : 9999 < (I 196 this_scanner).toInt := Int32.lt_iff_toInt_lt.mp (nle c_128)
        have h_147 : rg (I 196 this_scanner) 10000 2147483647 := rg_lt2 (nle c_128) (rg_k (9999 : Int32) 9999 rfl) (rg_full _) (by decide)
        have uh_147 := h_147.1
        have vh_147 := h_147.2
        refine lv_aload_n hx hb dX4_readOne_27 rfl (lv_at hl 1 rfl) ?_
        refine lv_iconst (v := 2) hx hb dX4_readOne_28 (by decide) ?_
        refine pk_v (va_runV (As := [.int 2]) (rest := []) ⟨hx, hb, hml, hown, hts⟩ (s_X4_refuse l D t σ I J ri rj rq H.size tg hSH hG.1 this (2 : Int32) hL_this hK_this (rg_w (rg_k (2 : Int32) 2 rfl) (by decide))) (cwV 1 hts (tw_V tw_748 tw_749 tw_750 tw_25 tw_751) rfl rfl rfl cv_yX4_refuse_1 ⟨Nat.le_of_ble_eq_true rfl, Nat.le_of_ble_eq_true rfl⟩) ⟨pq_blind, pq_recv hK hP hL_this hK_this (by decide) rfl, pq_pre hK hN hP hD⟩ rfl rfl hl.1 rfl (lv_room (Nat.le_of_ble_eq_true rfl)) dX4_readOne_29 ⟨Nat.le_of_ble_eq_true rfl, Nat.le_of_ble_eq_true rfl⟩) hD hS hA (fun σ1 μ1 H locs hw_149 hP hD hS => ?_)
        obtain ⟨I_150, hu_151, hg_152, hp_154⟩ := hw_149
        obtain ⟨hu_151a, hu_151b⟩ := Prod.mk.inj hu_151
        rw [hu_151a, hu_151b] at hP hD
        have tt_155 := hp_154
        have hG := GX.tr hG hg_152 (by decide)
        have tt_156 : (I_150 132 this).toInt = (I 132 this).toInt := by rw [hg_152.2.1 132 (by decide) (by decide)]
        have tt_157 : (I_150 134 this).toInt = (I 134 this).toInt := by rw [hg_152.2.1 134 (by decide) (by decide)]
        have tt_158 : (I_150 197 this_scanner).toInt = (I 197 this_scanner).toInt := by rw [hg_152.2.1 197 (by decide) (by decide)]
        have tt_159 : (I_150 194 this_scanner).toInt = (I 194 this_scanner).toInt := by rw [hg_152.2.1 194 (by decide) (by decide)]
        refine lv_aload_n hx hb dX4_readOne_32 rfl (lv_at hl 1 rfl) ?_
        refine lv_aload_n hx hb dX4_readOne_33 rfl (lv_at hl 1 rfl) ?_
        refine pg_f (v := .ref this_scanner) (C := RX4) (T := TX4) (N := 12) hx hb hts (tw_i inlX4) hown hK hP hL_this hK_this (by decide) rfl 0 (by decide) (hts _ (tw_c tw_154)) (pq_hv rfl hR_this_scanner) dX4_readOne_34 ?_
        refine pg_f (v := .int (I_150 196 this_scanner)) (C := RX6) (T := TX6) (N := 6) hx hb hts (tw_i inlX6) hown hK hP hL_this_scanner hK_this_scanner (by decide) rfl 4 (by decide) (hts _ (tw_c tw_768)) rfl dX4_readOne_37 ?_
        refine pk_v (va_runV (As := [.int (I_150 196 this_scanner)]) (rest := []) ⟨hx, hb, hml, hown, hts⟩ (s_X4_emit l D t σ I_150 J ri rj rq H.size tg hSH hG.1 this (I_150 196 this_scanner) hL_this hK_this) (cwV 1 hts (tw_V tw_769 tw_770 tw_771 tw_25 tw_772) rfl rfl rfl cv_yX4_emit_1 ⟨Nat.le_of_ble_eq_true rfl, Nat.le_of_ble_eq_true rfl⟩) ⟨pq_blind, pq_recv hK hP hL_this hK_this (by decide) rfl, pq_pre hK hN hP hD⟩ rfl rfl hl.1 rfl (lv_room (Nat.le_of_ble_eq_true rfl)) dX4_readOne_40 ⟨Nat.le_of_ble_eq_true rfl, Nat.le_of_ble_eq_true rfl⟩) hD hS hA (fun σ1 μ1 H locs hw_161 hP hD hS => ?_)
        obtain ⟨I_162, ri_163, hu_164, hg_165, hp_167, hp_168⟩ := hw_161
        obtain ⟨hu_164a, hu_164b⟩ := Prod.mk.inj hu_164
        rw [hu_164a, hu_164b] at hP hD
        have tt_169 := hp_167
        have tt_170 := hp_168
        have hG := GX.tr hG hg_165 (by decide)
        have tt_171 : (I_162 134 this).toInt = (I_150 134 this).toInt := by rw [hg_165.2.1 134 (by decide) (by decide)]
        have tt_172 : (I_162 129 this).toInt = (I_150 129 this).toInt := by rw [hg_165.2.1 129 (by decide) (by decide)]
        have tt_173 : (I_162 197 this_scanner).toInt = (I_150 197 this_scanner).toInt := by rw [hg_165.2.1 197 (by decide) (by decide)]
        have tt_174 : (I_162 194 this_scanner).toInt = (I_150 194 this_scanner).toInt := by rw [hg_165.2.1 194 (by decide) (by decide)]
        refine lv_iconst (v := 0) hx hb dX4_readOne_43 (by decide) ?_
        subst hQ
        exact W.zret (v := 0) hx hb hr (by decide) (fun t1 ht hW => ⟨⟨0, (σ, I_162, J, ri_163, rj, rq), rfl, ⟨I_162, ri_163, rfl, hG, (by omega), (ft_t (fun _ _ => rfl) hp_168), (Or.inr ⟨rfl, trivial⟩)⟩, by rw [ht]; exact hP, va_K.moved hW.alike hK, hD⟩, hS.F ht⟩) hS.2.2 dX4_readOne_44
  exact go _ _ _ hP hD hS hl

set_option maxHeartbeats 4000000 in
set_option maxRecDepth 100000 in
theorem s_X4_rank (l : Launch) (D : va_G) (t : pq_T) (σ : pq_S) (I : Nat → Nat → Int32) (J : Nat → Nat → Int64) (ri : Nat → Nat → Int32) (rj : Nat → Nat → Int64) (rq : Nat → Nat → Option Nat) (sz : Nat) (tg : Nat → Nat) (hSH : SH σ tg) (hG0 : GS tg σ I ri rq) (a0 : Int32) : MetI l yX4_rank (wa yX4_rank cX4_rank 1 (some .int)) ({ frames := 0, cells := 0, slots := 0, locals := 0 }) [.int a0] D t σ (I, J, ri, rj, rq) sz 0 0 (fun (r : Int32) (u : pq_S × pq_M) => u = (σ, I, J, ri, rj, rq) ∧ rg r 0 7) := by
  refine Met.ofW (cc := cX4_rank) (maxL := 1) (ret := (some .int)) (by decide) rfl ?_
  intro p e s m args below meth c s₁ B hml hv
  obtain ⟨rfl, hsz, hP, hK, hD0, hN⟩ := hv
  have hx := B.exec
  have hb := B.bytes
  have hr := B.returns
  have hts := atoms_spec (ws := (wa yX4_rank cX4_rank 1 (some .int))) B.pre
  have hown : s.vm.findClass RX4 = some m.cls := findClass_of_methodNamed B.named
  have hlocks := B.notSynchronized
  subst hsz
  have hD : va_D (pq_B t σ (I, J, ri, rj, rq) s.heap.size) (pq_P t σ (I, J, ri, rj, rq)) := hD0.self
  generalize hAe : pq_B t σ (I, J, ri, rj, rq) s.heap.size = A at hD ⊢
  have hA : ∀ q : Nat, s.heap.size ≤ q → A q := fun q h => by rw [← hAe]; exact Or.inr h
  have hS : va_S A s.heap s.heap [] := va_S.rf
  have hG : GX [] tg σ I ri rj I ri rj rq := ⟨hG0, fun _ _ _ => rfl, fun _ _ _ _ _ => rfl, fun _ _ _ _ _ => rfl⟩
  have hl := lv_entry ([.int a0]) (n := 1) (Nat.le_of_ble_eq_true rfl)
  rw [lg_entry_eq]
  generalize (lg_sl ([.int a0]) ++ List.replicate (1 - (lg_sl ([.int a0])).length) Slot.unset).toArray = ls at hl ⊢
  have hl : lv_has ls 1 [(0, .int a0)] := hl
  refine q_gen (fun Q hQ => ?_)
  have go : ∀ (H : Heap) (locs : List Loc) (ls : Array Slot), va_P D vwCl (pq_P t σ (I, J, ri, rj, rq)) H → va_D A (pq_P t σ (I, J, ri, rj, rq)) → va_S A s.heap H locs → lv_has ls 1 [(0, .int a0)] → W p l e ({ frames := 0, cells := 0, slots := 0, locals := 0 } : Room) s m (List.toArray ([.int a0] : List Value)) below meth c H locs 0 0 Q (F0 m 0 ls []) := by
    intro H locs ls hP hD hS hl
    refine lv_iload_n hx hb dX4_rank_0 rfl (lv_at hl 0 rfl) ?_
    by_cases k_1 : a0 = (9 : Int32)
    · have tc_2 : (a0).toInt = 9 := congrArg Int32.toInt k_1
      have h_3 : rg a0 9 9 := rg_and (rg_full _) (rg_of_eq k_1 (rg_k (9 : Int32) 9 rfl)) (by decide)
      have uh_3 := h_3.1
      have vh_3 := h_3.2
      refine lv_tov 9 k_1 ?_
      refine lv_tableIn (tgt := 124) hx hb dX4_rank_1 (by decide) (by decide) rfl (by decide) ?_
      refine lv_iconst (v := 1) hx hb dX4_rank_124 (by decide) ?_
      subst hQ
      exact W.iret (v := 1) hx hb hr (fun t1 ht hW => ⟨⟨1, (σ, I, J, ri, rj, rq), rfl, ⟨rfl, (rg_w (rg_k (1 : Int32) 1 rfl) (by decide))⟩, by rw [ht]; exact hP, va_K.moved hW.alike hK, hD⟩, hS.F ht⟩) hS.2.2 dX4_rank_125
    by_cases k_4 : a0 = (10 : Int32)
    · have tc_5 : (a0).toInt = 10 := congrArg Int32.toInt k_4
      have h_6 : rg a0 10 10 := rg_and (rg_full _) (rg_of_eq k_4 (rg_k (10 : Int32) 10 rfl)) (by decide)
      have uh_6 := h_6.1
      have vh_6 := h_6.2
      refine lv_tov 10 k_4 ?_
      refine lv_tableIn (tgt := 126) hx hb dX4_rank_1 (by decide) (by decide) rfl (by decide) ?_
      refine lv_iconst (v := 2) hx hb dX4_rank_126 (by decide) ?_
      subst hQ
      exact W.iret (v := 2) hx hb hr (fun t1 ht hW => ⟨⟨2, (σ, I, J, ri, rj, rq), rfl, ⟨rfl, (rg_w (rg_k (2 : Int32) 2 rfl) (by decide))⟩, by rw [ht]; exact hP, va_K.moved hW.alike hK, hD⟩, hS.F ht⟩) hS.2.2 dX4_rank_127
    by_cases k_7 : a0 = (11 : Int32)
    · have tc_8 : (a0).toInt = 11 := congrArg Int32.toInt k_7
      have h_9 : rg a0 11 11 := rg_and (rg_full _) (rg_of_eq k_7 (rg_k (11 : Int32) 11 rfl)) (by decide)
      have uh_9 := h_9.1
      have vh_9 := h_9.2
      refine lv_tov 11 k_7 ?_
      refine lv_tableIn (tgt := 128) hx hb dX4_rank_1 (by decide) (by decide) rfl (by decide) ?_
      refine lv_iconst (v := 3) hx hb dX4_rank_128 (by decide) ?_
      subst hQ
      exact W.iret (v := 3) hx hb hr (fun t1 ht hW => ⟨⟨3, (σ, I, J, ri, rj, rq), rfl, ⟨rfl, (rg_w (rg_k (3 : Int32) 3 rfl) (by decide))⟩, by rw [ht]; exact hP, va_K.moved hW.alike hK, hD⟩, hS.F ht⟩) hS.2.2 dX4_rank_129
    by_cases k_10 : a0 = (12 : Int32)
    · have tc_11 : (a0).toInt = 12 := congrArg Int32.toInt k_10
      have h_12 : rg a0 12 12 := rg_and (rg_full _) (rg_of_eq k_10 (rg_k (12 : Int32) 12 rfl)) (by decide)
      have uh_12 := h_12.1
      have vh_12 := h_12.2
      refine lv_tov 12 k_10 ?_
      refine lv_tableIn (tgt := 140) hx hb dX4_rank_1 (by decide) (by decide) rfl (by decide) ?_
      refine lv_iconst (v := 4) hx hb dX4_rank_140 (by decide) ?_
      subst hQ
      exact W.iret (v := 4) hx hb hr (fun t1 ht hW => ⟨⟨4, (σ, I, J, ri, rj, rq), rfl, ⟨rfl, (rg_w (rg_k (4 : Int32) 4 rfl) (by decide))⟩, by rw [ht]; exact hP, va_K.moved hW.alike hK, hD⟩, hS.F ht⟩) hS.2.2 dX4_rank_141
    by_cases k_13 : a0 = (13 : Int32)
    · have tc_14 : (a0).toInt = 13 := congrArg Int32.toInt k_13
      have h_15 : rg a0 13 13 := rg_and (rg_full _) (rg_of_eq k_13 (rg_k (13 : Int32) 13 rfl)) (by decide)
      have uh_15 := h_15.1
      have vh_15 := h_15.2
      refine lv_tov 13 k_13 ?_
      refine lv_tableIn (tgt := 140) hx hb dX4_rank_1 (by decide) (by decide) rfl (by decide) ?_
      refine lv_iconst (v := 4) hx hb dX4_rank_140 (by decide) ?_
      subst hQ
      exact W.iret (v := 4) hx hb hr (fun t1 ht hW => ⟨⟨4, (σ, I, J, ri, rj, rq), rfl, ⟨rfl, (rg_w (rg_k (4 : Int32) 4 rfl) (by decide))⟩, by rw [ht]; exact hP, va_K.moved hW.alike hK, hD⟩, hS.F ht⟩) hS.2.2 dX4_rank_141
    by_cases k_16 : a0 = (14 : Int32)
    · have tc_17 : (a0).toInt = 14 := congrArg Int32.toInt k_16
      have h_18 : rg a0 14 14 := rg_and (rg_full _) (rg_of_eq k_16 (rg_k (14 : Int32) 14 rfl)) (by decide)
      have uh_18 := h_18.1
      have vh_18 := h_18.2
      refine lv_tov 14 k_16 ?_
      refine lv_tableIn (tgt := 140) hx hb dX4_rank_1 (by decide) (by decide) rfl (by decide) ?_
      refine lv_iconst (v := 4) hx hb dX4_rank_140 (by decide) ?_
      subst hQ
      exact W.iret (v := 4) hx hb hr (fun t1 ht hW => ⟨⟨4, (σ, I, J, ri, rj, rq), rfl, ⟨rfl, (rg_w (rg_k (4 : Int32) 4 rfl) (by decide))⟩, by rw [ht]; exact hP, va_K.moved hW.alike hK, hD⟩, hS.F ht⟩) hS.2.2 dX4_rank_141
    by_cases k_19 : a0 = (15 : Int32)
    · have tc_20 : (a0).toInt = 15 := congrArg Int32.toInt k_19
      have h_21 : rg a0 15 15 := rg_and (rg_full _) (rg_of_eq k_19 (rg_k (15 : Int32) 15 rfl)) (by decide)
      have uh_21 := h_21.1
      have vh_21 := h_21.2
      refine lv_tov 15 k_19 ?_
      refine lv_tableIn (tgt := 140) hx hb dX4_rank_1 (by decide) (by decide) rfl (by decide) ?_
      refine lv_iconst (v := 4) hx hb dX4_rank_140 (by decide) ?_
      subst hQ
      exact W.iret (v := 4) hx hb hr (fun t1 ht hW => ⟨⟨4, (σ, I, J, ri, rj, rq), rfl, ⟨rfl, (rg_w (rg_k (4 : Int32) 4 rfl) (by decide))⟩, by rw [ht]; exact hP, va_K.moved hW.alike hK, hD⟩, hS.F ht⟩) hS.2.2 dX4_rank_141
    by_cases k_22 : a0 = (16 : Int32)
    · have tc_23 : (a0).toInt = 16 := congrArg Int32.toInt k_22
      have h_24 : rg a0 16 16 := rg_and (rg_full _) (rg_of_eq k_22 (rg_k (16 : Int32) 16 rfl)) (by decide)
      have uh_24 := h_24.1
      have vh_24 := h_24.2
      refine lv_tov 16 k_22 ?_
      refine lv_tableIn (tgt := 140) hx hb dX4_rank_1 (by decide) (by decide) rfl (by decide) ?_
      refine lv_iconst (v := 4) hx hb dX4_rank_140 (by decide) ?_
      subst hQ
      exact W.iret (v := 4) hx hb hr (fun t1 ht hW => ⟨⟨4, (σ, I, J, ri, rj, rq), rfl, ⟨rfl, (rg_w (rg_k (4 : Int32) 4 rfl) (by decide))⟩, by rw [ht]; exact hP, va_K.moved hW.alike hK, hD⟩, hS.F ht⟩) hS.2.2 dX4_rank_141
    by_cases k_25 : a0 = (17 : Int32)
    · have tc_26 : (a0).toInt = 17 := congrArg Int32.toInt k_25
      have h_27 : rg a0 17 17 := rg_and (rg_full _) (rg_of_eq k_25 (rg_k (17 : Int32) 17 rfl)) (by decide)
      have uh_27 := h_27.1
      have vh_27 := h_27.2
      refine lv_tov 17 k_25 ?_
      refine lv_tableIn (tgt := 140) hx hb dX4_rank_1 (by decide) (by decide) rfl (by decide) ?_
      refine lv_iconst (v := 4) hx hb dX4_rank_140 (by decide) ?_
      subst hQ
      exact W.iret (v := 4) hx hb hr (fun t1 ht hW => ⟨⟨4, (σ, I, J, ri, rj, rq), rfl, ⟨rfl, (rg_w (rg_k (4 : Int32) 4 rfl) (by decide))⟩, by rw [ht]; exact hP, va_K.moved hW.alike hK, hD⟩, hS.F ht⟩) hS.2.2 dX4_rank_141
    by_cases k_28 : a0 = (18 : Int32)
    · have tc_29 : (a0).toInt = 18 := congrArg Int32.toInt k_28
      have h_30 : rg a0 18 18 := rg_and (rg_full _) (rg_of_eq k_28 (rg_k (18 : Int32) 18 rfl)) (by decide)
      have uh_30 := h_30.1
      have vh_30 := h_30.2
      refine lv_tov 18 k_28 ?_
      refine lv_tableIn (tgt := 140) hx hb dX4_rank_1 (by decide) (by decide) rfl (by decide) ?_
      refine lv_iconst (v := 4) hx hb dX4_rank_140 (by decide) ?_
      subst hQ
      exact W.iret (v := 4) hx hb hr (fun t1 ht hW => ⟨⟨4, (σ, I, J, ri, rj, rq), rfl, ⟨rfl, (rg_w (rg_k (4 : Int32) 4 rfl) (by decide))⟩, by rw [ht]; exact hP, va_K.moved hW.alike hK, hD⟩, hS.F ht⟩) hS.2.2 dX4_rank_141
    by_cases k_31 : a0 = (19 : Int32)
    · have tc_32 : (a0).toInt = 19 := congrArg Int32.toInt k_31
      have h_33 : rg a0 19 19 := rg_and (rg_full _) (rg_of_eq k_31 (rg_k (19 : Int32) 19 rfl)) (by decide)
      have uh_33 := h_33.1
      have vh_33 := h_33.2
      refine lv_tov 19 k_31 ?_
      refine lv_tableIn (tgt := 140) hx hb dX4_rank_1 (by decide) (by decide) rfl (by decide) ?_
      refine lv_iconst (v := 4) hx hb dX4_rank_140 (by decide) ?_
      subst hQ
      exact W.iret (v := 4) hx hb hr (fun t1 ht hW => ⟨⟨4, (σ, I, J, ri, rj, rq), rfl, ⟨rfl, (rg_w (rg_k (4 : Int32) 4 rfl) (by decide))⟩, by rw [ht]; exact hP, va_K.moved hW.alike hK, hD⟩, hS.F ht⟩) hS.2.2 dX4_rank_141
    by_cases k_34 : a0 = (20 : Int32)
    · have tc_35 : (a0).toInt = 20 := congrArg Int32.toInt k_34
      have h_36 : rg a0 20 20 := rg_and (rg_full _) (rg_of_eq k_34 (rg_k (20 : Int32) 20 rfl)) (by decide)
      have uh_36 := h_36.1
      have vh_36 := h_36.2
      refine lv_tov 20 k_34 ?_
      refine lv_tableIn (tgt := 140) hx hb dX4_rank_1 (by decide) (by decide) rfl (by decide) ?_
      refine lv_iconst (v := 4) hx hb dX4_rank_140 (by decide) ?_
      subst hQ
      exact W.iret (v := 4) hx hb hr (fun t1 ht hW => ⟨⟨4, (σ, I, J, ri, rj, rq), rfl, ⟨rfl, (rg_w (rg_k (4 : Int32) 4 rfl) (by decide))⟩, by rw [ht]; exact hP, va_K.moved hW.alike hK, hD⟩, hS.F ht⟩) hS.2.2 dX4_rank_141
    by_cases k_37 : a0 = (21 : Int32)
    · have tc_38 : (a0).toInt = 21 := congrArg Int32.toInt k_37
      have h_39 : rg a0 21 21 := rg_and (rg_full _) (rg_of_eq k_37 (rg_k (21 : Int32) 21 rfl)) (by decide)
      have uh_39 := h_39.1
      have vh_39 := h_39.2
      refine lv_tov 21 k_37 ?_
      refine lv_tableIn (tgt := 140) hx hb dX4_rank_1 (by decide) (by decide) rfl (by decide) ?_
      refine lv_iconst (v := 4) hx hb dX4_rank_140 (by decide) ?_
      subst hQ
      exact W.iret (v := 4) hx hb hr (fun t1 ht hW => ⟨⟨4, (σ, I, J, ri, rj, rq), rfl, ⟨rfl, (rg_w (rg_k (4 : Int32) 4 rfl) (by decide))⟩, by rw [ht]; exact hP, va_K.moved hW.alike hK, hD⟩, hS.F ht⟩) hS.2.2 dX4_rank_141
    by_cases k_40 : a0 = (22 : Int32)
    · have tc_41 : (a0).toInt = 22 := congrArg Int32.toInt k_40
      have h_42 : rg a0 22 22 := rg_and (rg_full _) (rg_of_eq k_40 (rg_k (22 : Int32) 22 rfl)) (by decide)
      have uh_42 := h_42.1
      have vh_42 := h_42.2
      refine lv_tov 22 k_40 ?_
      refine lv_tableIn (tgt := 140) hx hb dX4_rank_1 (by decide) (by decide) rfl (by decide) ?_
      refine lv_iconst (v := 4) hx hb dX4_rank_140 (by decide) ?_
      subst hQ
      exact W.iret (v := 4) hx hb hr (fun t1 ht hW => ⟨⟨4, (σ, I, J, ri, rj, rq), rfl, ⟨rfl, (rg_w (rg_k (4 : Int32) 4 rfl) (by decide))⟩, by rw [ht]; exact hP, va_K.moved hW.alike hK, hD⟩, hS.F ht⟩) hS.2.2 dX4_rank_141
    by_cases k_43 : a0 = (23 : Int32)
    · have tc_44 : (a0).toInt = 23 := congrArg Int32.toInt k_43
      have h_45 : rg a0 23 23 := rg_and (rg_full _) (rg_of_eq k_43 (rg_k (23 : Int32) 23 rfl)) (by decide)
      have uh_45 := h_45.1
      have vh_45 := h_45.2
      refine lv_tov 23 k_43 ?_
      refine lv_tableIn (tgt := 140) hx hb dX4_rank_1 (by decide) (by decide) rfl (by decide) ?_
      refine lv_iconst (v := 4) hx hb dX4_rank_140 (by decide) ?_
      subst hQ
      exact W.iret (v := 4) hx hb hr (fun t1 ht hW => ⟨⟨4, (σ, I, J, ri, rj, rq), rfl, ⟨rfl, (rg_w (rg_k (4 : Int32) 4 rfl) (by decide))⟩, by rw [ht]; exact hP, va_K.moved hW.alike hK, hD⟩, hS.F ht⟩) hS.2.2 dX4_rank_141
    by_cases k_46 : a0 = (24 : Int32)
    · have tc_47 : (a0).toInt = 24 := congrArg Int32.toInt k_46
      have h_48 : rg a0 24 24 := rg_and (rg_full _) (rg_of_eq k_46 (rg_k (24 : Int32) 24 rfl)) (by decide)
      have uh_48 := h_48.1
      have vh_48 := h_48.2
      refine lv_tov 24 k_46 ?_
      refine lv_tableIn (tgt := 140) hx hb dX4_rank_1 (by decide) (by decide) rfl (by decide) ?_
      refine lv_iconst (v := 4) hx hb dX4_rank_140 (by decide) ?_
      subst hQ
      exact W.iret (v := 4) hx hb hr (fun t1 ht hW => ⟨⟨4, (σ, I, J, ri, rj, rq), rfl, ⟨rfl, (rg_w (rg_k (4 : Int32) 4 rfl) (by decide))⟩, by rw [ht]; exact hP, va_K.moved hW.alike hK, hD⟩, hS.F ht⟩) hS.2.2 dX4_rank_141
    by_cases k_49 : a0 = (25 : Int32)
    · have tc_50 : (a0).toInt = 25 := congrArg Int32.toInt k_49
      have h_51 : rg a0 25 25 := rg_and (rg_full _) (rg_of_eq k_49 (rg_k (25 : Int32) 25 rfl)) (by decide)
      have uh_51 := h_51.1
      have vh_51 := h_51.2
      refine lv_tov 25 k_49 ?_
      refine lv_tableIn (tgt := 130) hx hb dX4_rank_1 (by decide) (by decide) rfl (by decide) ?_
      refine lv_iconst (v := 5) hx hb dX4_rank_130 (by decide) ?_
      subst hQ
      exact W.iret (v := 5) hx hb hr (fun t1 ht hW => ⟨⟨5, (σ, I, J, ri, rj, rq), rfl, ⟨rfl, (rg_w (rg_k (5 : Int32) 5 rfl) (by decide))⟩, by rw [ht]; exact hP, va_K.moved hW.alike hK, hD⟩, hS.F ht⟩) hS.2.2 dX4_rank_131
    by_cases k_52 : a0 = (26 : Int32)
    · have tc_53 : (a0).toInt = 26 := congrArg Int32.toInt k_52
      have h_54 : rg a0 26 26 := rg_and (rg_full _) (rg_of_eq k_52 (rg_k (26 : Int32) 26 rfl)) (by decide)
      have uh_54 := h_54.1
      have vh_54 := h_54.2
      refine lv_tov 26 k_52 ?_
      refine lv_tableIn (tgt := 130) hx hb dX4_rank_1 (by decide) (by decide) rfl (by decide) ?_
      refine lv_iconst (v := 5) hx hb dX4_rank_130 (by decide) ?_
      subst hQ
      exact W.iret (v := 5) hx hb hr (fun t1 ht hW => ⟨⟨5, (σ, I, J, ri, rj, rq), rfl, ⟨rfl, (rg_w (rg_k (5 : Int32) 5 rfl) (by decide))⟩, by rw [ht]; exact hP, va_K.moved hW.alike hK, hD⟩, hS.F ht⟩) hS.2.2 dX4_rank_131
    by_cases k_55 : a0 = (27 : Int32)
    · have tc_56 : (a0).toInt = 27 := congrArg Int32.toInt k_55
      have h_57 : rg a0 27 27 := rg_and (rg_full _) (rg_of_eq k_55 (rg_k (27 : Int32) 27 rfl)) (by decide)
      have uh_57 := h_57.1
      have vh_57 := h_57.2
      refine lv_tov 27 k_55 ?_
      refine lv_tableIn (tgt := 132) hx hb dX4_rank_1 (by decide) (by decide) rfl (by decide) ?_
      refine lv_bipush (v := 6) hx hb dX4_rank_132 (by decide) ?_
      subst hQ
      exact W.iret (v := 6) hx hb hr (fun t1 ht hW => ⟨⟨6, (σ, I, J, ri, rj, rq), rfl, ⟨rfl, (rg_w (rg_k (6 : Int32) 6 rfl) (by decide))⟩, by rw [ht]; exact hP, va_K.moved hW.alike hK, hD⟩, hS.F ht⟩) hS.2.2 dX4_rank_134
    by_cases k_58 : a0 = (28 : Int32)
    · have tc_59 : (a0).toInt = 28 := congrArg Int32.toInt k_58
      have h_60 : rg a0 28 28 := rg_and (rg_full _) (rg_of_eq k_58 (rg_k (28 : Int32) 28 rfl)) (by decide)
      have uh_60 := h_60.1
      have vh_60 := h_60.2
      refine lv_tov 28 k_58 ?_
      refine lv_tableIn (tgt := 132) hx hb dX4_rank_1 (by decide) (by decide) rfl (by decide) ?_
      refine lv_bipush (v := 6) hx hb dX4_rank_132 (by decide) ?_
      subst hQ
      exact W.iret (v := 6) hx hb hr (fun t1 ht hW => ⟨⟨6, (σ, I, J, ri, rj, rq), rfl, ⟨rfl, (rg_w (rg_k (6 : Int32) 6 rfl) (by decide))⟩, by rw [ht]; exact hP, va_K.moved hW.alike hK, hD⟩, hS.F ht⟩) hS.2.2 dX4_rank_134
    by_cases k_61 : a0 = (29 : Int32)
    · have tc_62 : (a0).toInt = 29 := congrArg Int32.toInt k_61
      have h_63 : rg a0 29 29 := rg_and (rg_full _) (rg_of_eq k_61 (rg_k (29 : Int32) 29 rfl)) (by decide)
      have uh_63 := h_63.1
      have vh_63 := h_63.2
      refine lv_tov 29 k_61 ?_
      refine lv_tableIn (tgt := 138) hx hb dX4_rank_1 (by decide) (by decide) rfl (by decide) ?_
      refine lv_iconst (v := 0) hx hb dX4_rank_138 (by decide) ?_
      subst hQ
      exact W.iret (v := 0) hx hb hr (fun t1 ht hW => ⟨⟨0, (σ, I, J, ri, rj, rq), rfl, ⟨rfl, (rg_w (rg_k (0 : Int32) 0 rfl) (by decide))⟩, by rw [ht]; exact hP, va_K.moved hW.alike hK, hD⟩, hS.F ht⟩) hS.2.2 dX4_rank_139
    by_cases k_64 : a0 = (30 : Int32)
    · have tc_65 : (a0).toInt = 30 := congrArg Int32.toInt k_64
      have h_66 : rg a0 30 30 := rg_and (rg_full _) (rg_of_eq k_64 (rg_k (30 : Int32) 30 rfl)) (by decide)
      have uh_66 := h_66.1
      have vh_66 := h_66.2
      refine lv_tov 30 k_64 ?_
      refine lv_tableIn (tgt := 140) hx hb dX4_rank_1 (by decide) (by decide) rfl (by decide) ?_
      refine lv_iconst (v := 4) hx hb dX4_rank_140 (by decide) ?_
      subst hQ
      exact W.iret (v := 4) hx hb hr (fun t1 ht hW => ⟨⟨4, (σ, I, J, ri, rj, rq), rfl, ⟨rfl, (rg_w (rg_k (4 : Int32) 4 rfl) (by decide))⟩, by rw [ht]; exact hP, va_K.moved hW.alike hK, hD⟩, hS.F ht⟩) hS.2.2 dX4_rank_141
    by_cases k_67 : a0 = (31 : Int32)
    · have tc_68 : (a0).toInt = 31 := congrArg Int32.toInt k_67
      have h_69 : rg a0 31 31 := rg_and (rg_full _) (rg_of_eq k_67 (rg_k (31 : Int32) 31 rfl)) (by decide)
      have uh_69 := h_69.1
      have vh_69 := h_69.2
      refine lv_tov 31 k_67 ?_
      refine lv_tableIn (tgt := 140) hx hb dX4_rank_1 (by decide) (by decide) rfl (by decide) ?_
      refine lv_iconst (v := 4) hx hb dX4_rank_140 (by decide) ?_
      subst hQ
      exact W.iret (v := 4) hx hb hr (fun t1 ht hW => ⟨⟨4, (σ, I, J, ri, rj, rq), rfl, ⟨rfl, (rg_w (rg_k (4 : Int32) 4 rfl) (by decide))⟩, by rw [ht]; exact hP, va_K.moved hW.alike hK, hD⟩, hS.F ht⟩) hS.2.2 dX4_rank_141
    by_cases k_70 : a0 = (32 : Int32)
    · have tc_71 : (a0).toInt = 32 := congrArg Int32.toInt k_70
      have h_72 : rg a0 32 32 := rg_and (rg_full _) (rg_of_eq k_70 (rg_k (32 : Int32) 32 rfl)) (by decide)
      have uh_72 := h_72.1
      have vh_72 := h_72.2
      refine lv_tov 32 k_70 ?_
      refine lv_tableIn (tgt := 140) hx hb dX4_rank_1 (by decide) (by decide) rfl (by decide) ?_
      refine lv_iconst (v := 4) hx hb dX4_rank_140 (by decide) ?_
      subst hQ
      exact W.iret (v := 4) hx hb hr (fun t1 ht hW => ⟨⟨4, (σ, I, J, ri, rj, rq), rfl, ⟨rfl, (rg_w (rg_k (4 : Int32) 4 rfl) (by decide))⟩, by rw [ht]; exact hP, va_K.moved hW.alike hK, hD⟩, hS.F ht⟩) hS.2.2 dX4_rank_141
    by_cases k_73 : a0 = (33 : Int32)
    · have tc_74 : (a0).toInt = 33 := congrArg Int32.toInt k_73
      have h_75 : rg a0 33 33 := rg_and (rg_full _) (rg_of_eq k_73 (rg_k (33 : Int32) 33 rfl)) (by decide)
      have uh_75 := h_75.1
      have vh_75 := h_75.2
      refine lv_tov 33 k_73 ?_
      refine lv_tableIn (tgt := 140) hx hb dX4_rank_1 (by decide) (by decide) rfl (by decide) ?_
      refine lv_iconst (v := 4) hx hb dX4_rank_140 (by decide) ?_
      subst hQ
      exact W.iret (v := 4) hx hb hr (fun t1 ht hW => ⟨⟨4, (σ, I, J, ri, rj, rq), rfl, ⟨rfl, (rg_w (rg_k (4 : Int32) 4 rfl) (by decide))⟩, by rw [ht]; exact hP, va_K.moved hW.alike hK, hD⟩, hS.F ht⟩) hS.2.2 dX4_rank_141
    by_cases k_76 : a0 = (34 : Int32)
    · have tc_77 : (a0).toInt = 34 := congrArg Int32.toInt k_76
      have h_78 : rg a0 34 34 := rg_and (rg_full _) (rg_of_eq k_76 (rg_k (34 : Int32) 34 rfl)) (by decide)
      have uh_78 := h_78.1
      have vh_78 := h_78.2
      refine lv_tov 34 k_76 ?_
      refine lv_tableIn (tgt := 140) hx hb dX4_rank_1 (by decide) (by decide) rfl (by decide) ?_
      refine lv_iconst (v := 4) hx hb dX4_rank_140 (by decide) ?_
      subst hQ
      exact W.iret (v := 4) hx hb hr (fun t1 ht hW => ⟨⟨4, (σ, I, J, ri, rj, rq), rfl, ⟨rfl, (rg_w (rg_k (4 : Int32) 4 rfl) (by decide))⟩, by rw [ht]; exact hP, va_K.moved hW.alike hK, hD⟩, hS.F ht⟩) hS.2.2 dX4_rank_141
    by_cases k_79 : a0 = (35 : Int32)
    · have tc_80 : (a0).toInt = 35 := congrArg Int32.toInt k_79
      have h_81 : rg a0 35 35 := rg_and (rg_full _) (rg_of_eq k_79 (rg_k (35 : Int32) 35 rfl)) (by decide)
      have uh_81 := h_81.1
      have vh_81 := h_81.2
      refine lv_tov 35 k_79 ?_
      refine lv_tableIn (tgt := 135) hx hb dX4_rank_1 (by decide) (by decide) rfl (by decide) ?_
      refine lv_bipush (v := 7) hx hb dX4_rank_135 (by decide) ?_
      subst hQ
      exact W.iret (v := 7) hx hb hr (fun t1 ht hW => ⟨⟨7, (σ, I, J, ri, rj, rq), rfl, ⟨rfl, (rg_w (rg_k (7 : Int32) 7 rfl) (by decide))⟩, by rw [ht]; exact hP, va_K.moved hW.alike hK, hD⟩, hS.F ht⟩) hS.2.2 dX4_rank_137
    refine lv_tableOut (tgt := 140) hx hb dX4_rank_1 (by have z_k_1 := sw_ne k_1 (n := 9) rfl; have z_k_4 := sw_ne k_4 (n := 10) rfl; have z_k_7 := sw_ne k_7 (n := 11) rfl; have z_k_10 := sw_ne k_10 (n := 12) rfl; have z_k_13 := sw_ne k_13 (n := 13) rfl; have z_k_16 := sw_ne k_16 (n := 14) rfl; have z_k_19 := sw_ne k_19 (n := 15) rfl; have z_k_22 := sw_ne k_22 (n := 16) rfl; have z_k_25 := sw_ne k_25 (n := 17) rfl; have z_k_28 := sw_ne k_28 (n := 18) rfl; have z_k_31 := sw_ne k_31 (n := 19) rfl; have z_k_34 := sw_ne k_34 (n := 20) rfl; have z_k_37 := sw_ne k_37 (n := 21) rfl; have z_k_40 := sw_ne k_40 (n := 22) rfl; have z_k_43 := sw_ne k_43 (n := 23) rfl; have z_k_46 := sw_ne k_46 (n := 24) rfl; have z_k_49 := sw_ne k_49 (n := 25) rfl; have z_k_52 := sw_ne k_52 (n := 26) rfl; have z_k_55 := sw_ne k_55 (n := 27) rfl; have z_k_58 := sw_ne k_58 (n := 28) rfl; have z_k_61 := sw_ne k_61 (n := 29) rfl; have z_k_64 := sw_ne k_64 (n := 30) rfl; have z_k_67 := sw_ne k_67 (n := 31) rfl; have z_k_70 := sw_ne k_70 (n := 32) rfl; have z_k_73 := sw_ne k_73 (n := 33) rfl; have z_k_76 := sw_ne k_76 (n := 34) rfl; have z_k_79 := sw_ne k_79 (n := 35) rfl; omega) (by decide) ?_
    refine lv_iconst (v := 4) hx hb dX4_rank_140 (by decide) ?_
    subst hQ
    exact W.iret (v := 4) hx hb hr (fun t1 ht hW => ⟨⟨4, (σ, I, J, ri, rj, rq), rfl, ⟨rfl, (rg_w (rg_k (4 : Int32) 4 rfl) (by decide))⟩, by rw [ht]; exact hP, va_K.moved hW.alike hK, hD⟩, hS.F ht⟩) hS.2.2 dX4_rank_141
  exact go _ _ _ hP hD hS hl

set_option maxHeartbeats 4000000 in
set_option maxRecDepth 100000 in
theorem s_X4_settle (l : Launch) (D : va_G) (t : pq_T) (σ : pq_S) (I : Nat → Nat → Int32) (J : Nat → Nat → Int64) (ri : Nat → Nat → Int32) (rj : Nat → Nat → Int64) (rq : Nat → Nat → Option Nat) (sz : Nat) (tg : Nat → Nat) (hSH : SH σ tg) (hG0 : GS tg σ I ri rq) (this : Nat) (a0 : Int32) (hL_this : this ∈ σ.1) (hK_this : σ.2.1 this = 4) : MetV l yX4_settle (wa yX4_settle cX4_settle 3 none) ({ frames := 1, cells := 0, slots := 0, locals := 21 }) [.ref this, .int a0] D t σ (I, J, ri, rj, rq) sz 0 0 (fun (u : pq_S × pq_M) => ∃ I' : Nat → Nat → Int32, ∃ ri' : Nat → Nat → Int32, u = (σ, I', J, ri', rj, rq) ∧ GX [132, 134] tg σ I ri rj I' ri' rj rq ∧ ((I' 132 this).toInt + (I' 134 this).toInt ≤ (I 132 this).toInt + (I 134 this).toInt) ∧ (∀ q, tg q = 258 → ri' q = ri q)) := by
  refine Met.ofW (cc := cX4_settle) (maxL := 3) (ret := none) (by decide) rfl ?_
  intro p e s m args below meth c s₁ B hml hv
  obtain ⟨rfl, hsz, hP, hK, hD0, hN⟩ := hv
  have hx := B.exec
  have hb := B.bytes
  have hr := B.returns
  have hts := atoms_spec (ws := (wa yX4_settle cX4_settle 3 none)) B.pre
  have hown : s.vm.findClass RX4 = some m.cls := findClass_of_methodNamed B.named
  have hlocks := B.notSynchronized
  subst hsz
  have hD : va_D (pq_B t σ (I, J, ri, rj, rq) s.heap.size) (pq_P t σ (I, J, ri, rj, rq)) := hD0.self
  generalize hAe : pq_B t σ (I, J, ri, rj, rq) s.heap.size = A at hD ⊢
  have hA : ∀ q : Nat, s.heap.size ≤ q → A q := fun q h => by rw [← hAe]; exact Or.inr h
  have hS : va_S A s.heap s.heap [] := va_S.rf
  have hG : GX [132, 134] tg σ I ri rj I ri rj rq := ⟨hG0, fun _ _ _ => rfl, fun _ _ _ _ _ => rfl, fun _ _ _ _ _ => rfl⟩
  have hl := lv_entry ([.ref this, .int a0]) (n := 3) (Nat.le_of_ble_eq_true rfl)
  rw [lg_entry_eq]
  generalize (lg_sl ([.ref this, .int a0]) ++ List.replicate (3 - (lg_sl ([.ref this, .int a0])).length) Slot.unset).toArray = ls at hl ⊢
  have hl : lv_has ls 3 [(0, .ref this), (1, .int a0)] := hl
  refine q_gen (fun Q hQ => ?_)
  have go : ∀ (H : Heap) (locs : List Loc) (ls : Array Slot), va_P D vwCl (pq_P t σ (I, J, ri, rj, rq)) H → va_D A (pq_P t σ (I, J, ri, rj, rq)) → va_S A s.heap H locs → lv_has ls 3 [(0, .ref this), (1, .int a0)] → W p l e ({ frames := 1, cells := 0, slots := 0, locals := 21 } : Room) s m (List.toArray ([.ref this, .int a0] : List Value)) below meth c H locs 0 0 Q (F0 m 0 ls []) := by
    intro H locs ls hP hD hS hl
    refine lv_aload_n hx hb dX4_settle_0 rfl (lv_at hl 0 rfl) ?_
    refine pg_f (v := .int (I 134 this)) (C := RX4) (T := TX4) (N := 12) hx hb hts (tw_i inlX4) hown hK hP hL_this hK_this (by decide) rfl 6 (by decide) (hts _ (tw_c tw_758)) rfl dX4_settle_1 ?_
    have h_1 : rg (I 134 this) 0 40 := GX.rI hG 134 rfl
    have uh_1 := h_1.1
    have vh_1 := h_1.2
    refine lv_if_le (tgt := 76) hx hb dX4_settle_4 (by decide) (fun c_2 => ?_) (fun c_2 => ?_)
    · have tc_3 : (I 134 this).toInt ≤ 0 := Int32.le_iff_toInt_le.mp c_2
      have h_4 : rg (I 134 this) 0 0 := rg_le1 c_2 h_1 (rg_k (0 : Int32) 0 rfl) (by decide)
      have uh_4 := h_4.1
      have vh_4 := h_4.2
      subst hQ
      exact W.vret hx hb hr (fun t1 ht hW => ⟨⟨(σ, I, J, ri, rj, rq), rfl, ⟨I, ri, rfl, hG, (by omega), (fun _ _ => rfl)⟩, by rw [ht]; exact hP, va_K.moved hW.alike hK, hD⟩, hS.F ht⟩) hS.2.2 dX4_settle_76
    · have tc_5 : 0 < (I 134 this).toInt := Int32.lt_iff_toInt_lt.mp (nle c_2)
      have h_6 : rg (I 134 this) 1 40 := rg_lt2 (nle c_2) (rg_k (0 : Int32) 0 rfl) h_1 (by decide)
      have uh_6 := h_6.1
      have vh_6 := h_6.2
      refine lv_aload_n hx hb dX4_settle_7 rfl (lv_at hl 0 rfl) ?_
      obtain ⟨w_7, hR_w_7, hL_w_7, hK_w_7, hN_w_7, hT_w_7⟩ := sh_a hSH 133 (ci := 4) (kd := 13) (len := 40) rfl (by decide) hL_this hK_this
      refine pg_f (v := .ref w_7) (C := RX4) (T := TX4) (N := 12) hx hb hts (tw_i inlX4) hown hK hP hL_this hK_this (by decide) rfl 5 (by decide) (hts _ (tw_c tw_161)) (pq_hv rfl hR_w_7) dX4_settle_8 ?_
      refine lv_aload_n hx hb dX4_settle_11 rfl (lv_at hl 0 rfl) ?_
      refine pg_f (v := .int (I 134 this)) (C := RX4) (T := TX4) (N := 12) hx hb hts (tw_i inlX4) hown hK hP hL_this hK_this (by decide) rfl 6 (by decide) (hts _ (tw_c tw_758)) rfl dX4_settle_12 ?_
      refine lv_iconst (v := 1) hx hb dX4_settle_15 (by decide) ?_
      refine lv_isub hx hb dX4_settle_16 ?_
      refine lv_topi (fun x_8 ex_8 => ?_)
      have h_9 : rg x_8 0 39 := rg_of_eq ex_8 (rg_sub h_6 (rg_k (1 : Int32) 1 rfl) (by decide))
      have uh_9 := h_9.1
      have vh_9 := h_9.2
      have tx_8 : (x_8).toInt = (I 134 this).toInt - 1 := by rw [ex_8]; exact i_sub_rg (a2 := (I 134 this).toInt) (b2 := 1) rfl rfl h_6 (rg_k (1 : Int32) 1 rfl) (by decide)
      refine pl_i hx hb hK hP hL_w_7 hK_w_7 hN_w_7 (rg_in h_9 (by decide)) dX4_settle_17 ?_
      refine lv_topi (fun x_10 ex_10 => ?_)
      refine pk_i (va_runS (As := [.int x_10]) (rest := []) ⟨hx, hb, hml, hown, hts⟩ (s_X4_rank l D t σ I J ri rj rq H.size tg hSH hG.1 x_10) (va_cwS 1 hts (tw_S tw_790 tw_791 tw_25 tw_792) rfl rfl rfl cd_yX4_rank_1 ⟨Nat.le_of_ble_eq_true rfl, Nat.le_of_ble_eq_true rfl⟩) ⟨pq_blind, pq_pre hK hN hP hD⟩ rfl rfl hl.1 rfl (lv_room (Nat.le_of_ble_eq_true rfl)) dX4_settle_18 ⟨Nat.le_of_ble_eq_true rfl, Nat.le_of_ble_eq_true rfl⟩) hD hS hA (fun x_11 σ1 μ1 H locs hw_12 hP hD hS => ?_)
      obtain ⟨hu_13, hr_15⟩ := hw_12
      obtain ⟨hu_13a, hu_13b⟩ := Prod.mk.inj hu_13
      rw [hu_13a, hu_13b] at hP hD
      refine lv_iload_n hx hb dX4_settle_21 rfl (lv_at hl 1 rfl) ?_
      refine lv_icmp_lt (tgt := 76) hx hb dX4_settle_22 (by decide) (fun c_16 => ?_) (fun c_16 => ?_)
      · have tc_17 : (x_11).toInt < (a0).toInt := Int32.lt_iff_toInt_lt.mp c_16
        have h_18 : rg a0 1 2147483647 := rg_lt2 c_16 hr_15 (rg_full _) (by decide)
        have uh_18 := h_18.1
        have vh_18 := h_18.2
        subst hQ
        exact W.vret hx hb hr (fun t1 ht hW => ⟨⟨(σ, I, J, ri, rj, rq), rfl, ⟨I, ri, rfl, hG, (by omega), (fun _ _ => rfl)⟩, by rw [ht]; exact hP, va_K.moved hW.alike hK, hD⟩, hS.F ht⟩) hS.2.2 dX4_settle_76
      · have tc_19 : (a0).toInt ≤ (x_11).toInt := Int32.le_iff_toInt_le.mp (nlt c_16)
        have h_20 : rg a0 (-2147483648) 7 := rg_le1 (nlt c_16) (rg_full _) hr_15 (by decide)
        have uh_20 := h_20.1
        have vh_20 := h_20.2
        refine lv_aload_n hx hb dX4_settle_25 rfl (lv_at hl 0 rfl) ?_
        refine lv_dup hx hb dX4_settle_26 rfl ?_
        refine pg_f (v := .int (I 134 this)) (C := RX4) (T := TX4) (N := 12) hx hb hts (tw_i inlX4) hown hK hP hL_this hK_this (by decide) rfl 6 (by decide) (hts _ (tw_c tw_758)) rfl dX4_settle_27 ?_
        refine lv_iconst (v := 1) hx hb dX4_settle_30 (by decide) ?_
        refine lv_isub hx hb dX4_settle_31 ?_
        refine lv_topi (fun x_21 ex_21 => ?_)
        have h_22 : rg x_21 0 39 := rg_of_eq ex_21 (rg_sub h_6 (rg_k (1 : Int32) 1 rfl) (by decide))
        have uh_22 := h_22.1
        have vh_22 := h_22.2
        have tx_21 : (x_21).toInt = (I 134 this).toInt - 1 := by rw [ex_21]; exact i_sub_rg (a2 := (I 134 this).toInt) (b2 := 1) rfl rfl h_6 (rg_k (1 : Int32) 1 rfl) (by decide)
        refine pp_i (v := x_21) (ty := .int) (C := RX4) (T := TX4) (N := 12) hx hb hts (tw_i inlX4) tyX4 tyX4_ok nmX4 hown hK hP hD hS hL_this hK_this (by decide) rfl 6 134 (by decide) (hts _ (tw_c tw_758)) rfl (tyX4_ok 6 (by decide)) rfl rfl (Nat.le_of_ble_eq_true rfl) (ps_134 _ _ _ _ _) dX4_settle_32 (fun I_23 H locs eI_23 hP hD hS => ?_)
        have hG := GX.wI hG 134 rfl eI_23 (rg_w h_22 (by decide)) (by decide)
        have tt_24 : (I_23 132 this).toInt = (I 132 this).toInt := by rw [eI_23, pq_uf _ _ _ (by decide)]
        have tt_25 : (I_23 134 this).toInt = (x_21).toInt := by rw [eI_23, pq_us]
        have tt_26 : (I_23 129 this).toInt = (I 129 this).toInt := by rw [eI_23, pq_uf _ _ _ (by decide)]
        refine lv_aload_n hx hb dX4_settle_35 rfl (lv_at hl 0 rfl) ?_
        refine pg_f (v := .ref w_7) (C := RX4) (T := TX4) (N := 12) hx hb hts (tw_i inlX4) hown hK hP hL_this hK_this (by decide) rfl 5 (by decide) (hts _ (tw_c tw_161)) (pq_hv rfl hR_w_7) dX4_settle_36 ?_
        refine lv_aload_n hx hb dX4_settle_39 rfl (lv_at hl 0 rfl) ?_
        refine pg_f (v := .int (I_23 134 this)) (C := RX4) (T := TX4) (N := 12) hx hb hts (tw_i inlX4) hown hK hP hL_this hK_this (by decide) rfl 6 (by decide) (hts _ (tw_c tw_758)) rfl dX4_settle_40 ?_
        have h_27 : rg (I_23 134 this) 0 39 := (by rw [eI_23, pq_us]; exact h_22)
        have uh_27 := h_27.1
        have vh_27 := h_27.2
        refine pl_i hx hb hK hP hL_w_7 hK_w_7 hN_w_7 (rg_in h_27 (by decide)) dX4_settle_43 ?_
        refine lv_topi (fun x_28 ex_28 => ?_)
        refine lv_istore_n (lv' := [(2, .int x_28), (0, .ref this), (1, .int a0)]) hx hb dX4_settle_44 rfl hl (by decide) rfl (fun ls hl => ?_)
        refine lv_aload_n hx hb dX4_settle_45 rfl (lv_at hl 1 rfl) ?_
        refine lv_iload_n hx hb dX4_settle_46 rfl (lv_at hl 0 rfl) ?_
        refine lv_ineg hx hb dX4_settle_47 ?_
        refine lv_topi (fun x_29 ex_29 => ?_)
        refine pk_v (va_runV (As := [.int x_29]) (rest := []) ⟨hx, hb, hml, hown, hts⟩ (s_X4_emit l D t σ I_23 J ri rj rq H.size tg hSH hG.1 this x_29 hL_this hK_this) (cwV 1 hts (tw_V tw_769 tw_770 tw_771 tw_25 tw_772) rfl rfl rfl cv_yX4_emit_1 ⟨Nat.le_of_ble_eq_true rfl, Nat.le_of_ble_eq_true rfl⟩) ⟨pq_blind, pq_recv hK hP hL_this hK_this (by decide) rfl, pq_pre hK hN hP hD⟩ rfl rfl hl.1 rfl (lv_room (Nat.le_of_ble_eq_true rfl)) dX4_settle_48 ⟨Nat.le_of_ble_eq_true rfl, Nat.le_of_ble_eq_true rfl⟩) hD hS hA (fun σ1 μ1 H locs hw_31 hP hD hS => ?_)
        obtain ⟨I_32, ri_33, hu_34, hg_35, hp_37, hp_38⟩ := hw_31
        obtain ⟨hu_34a, hu_34b⟩ := Prod.mk.inj hu_34
        rw [hu_34a, hu_34b] at hP hD
        have tt_39 := hp_37
        have tt_40 := hp_38
        have hG := GX.tr hG hg_35 (by decide)
        have tt_41 : (I_32 134 this).toInt = (I_23 134 this).toInt := by rw [hg_35.2.1 134 (by decide) (by decide)]
        have tt_42 : (I_32 129 this).toInt = (I_23 129 this).toInt := by rw [hg_35.2.1 129 (by decide) (by decide)]
        refine lv_iload_n hx hb dX4_settle_51 rfl (lv_at hl 0 rfl) ?_
        refine lv_bipush (v := 11) hx hb dX4_settle_52 (by decide) ?_
        refine lv_icmp_eq (tgt := 63) hx hb dX4_settle_54 (by decide) (fun c_43 => ?_) (fun c_43 => ?_)
        · have tc_44 : (x_28).toInt = 11 := congrArg Int32.toInt c_43
          have h_45 : rg x_28 11 11 := rg_and (rg_full _) (rg_of_eq c_43 (rg_k (11 : Int32) 11 rfl)) (by decide)
          have uh_45 := h_45.1
          have vh_45 := h_45.2
          refine lv_aload_n hx hb dX4_settle_63 rfl (lv_at hl 1 rfl) ?_
          refine lv_dup hx hb dX4_settle_64 rfl ?_
          refine pg_f (v := .int (I_32 135 this)) (C := RX4) (T := TX4) (N := 12) hx hb hts (tw_i inlX4) hown hK hP hL_this hK_this (by decide) rfl 7 (by decide) (hts _ (tw_c tw_759)) rfl dX4_settle_65 ?_
          refine lv_iconst (v := 1) hx hb dX4_settle_68 (by decide) ?_
          refine lv_isub hx hb dX4_settle_69 ?_
          refine lv_topi (fun x_46 ex_46 => ?_)
          refine pp_i (v := x_46) (ty := .int) (C := RX4) (T := TX4) (N := 12) hx hb hts (tw_i inlX4) tyX4 tyX4_ok nmX4 hown hK hP hD hS hL_this hK_this (by decide) rfl 7 135 (by decide) (hts _ (tw_c tw_759)) rfl (tyX4_ok 7 (by decide)) rfl rfl (Nat.le_of_ble_eq_true rfl) (ps_135 _ _ _ _ _) dX4_settle_70 (fun I_47 H locs eI_47 hP hD hS => ?_)
          have hG := GX.wI hG 135 rfl eI_47 (rg_w (rg_full _) (by decide)) (by decide)
          have tt_48 : (I_47 132 this).toInt = (I_32 132 this).toInt := by rw [eI_47, pq_uf _ _ _ (by decide)]
          have tt_49 : (I_47 134 this).toInt = (I_32 134 this).toInt := by rw [eI_47, pq_uf _ _ _ (by decide)]
          have tt_50 : (I_47 129 this).toInt = (I_32 129 this).toInt := by rw [eI_47, pq_uf _ _ _ (by decide)]
          refine lv_goto (tgt := 0) hx hb dX4_settle_73 (by decide) ?_
          have L_302 : ∀ (n_301 : Nat) (I_237 : Nat → Nat → Int32) (ri_238 : Nat → Nat → Int32) (H : Heap) (locs : List Loc) (ls : Array Slot), ((I_237 132 this).toInt + (I_237 134 this).toInt ≤ (I 132 this).toInt + (I 134 this).toInt) → (∀ q, tg q = 258 → ri_238 q = ri q) → ((I_237 134 this).toInt - 0).toNat < n_301 → GX [132, 134] tg σ I ri rj I_237 ri_238 rj rq → va_P D vwCl (pq_P t σ (I_237, J, ri_238, rj, rq)) H → va_D A (pq_P t σ (I_237, J, ri_238, rj, rq)) → va_S A s.heap H locs → lv_has ls 3 [(0, .ref this), (1, .int a0)] → W p l e ({ frames := 1, cells := 0, slots := 0, locals := 21 } : Room) s m (List.toArray ([.ref this, .int a0] : List Value)) below meth c H locs 0 0 Q (F0 m 0 ls []) := by
            intro n_301
            induction n_301 with
            | zero => intro I_237 ri_238 H locs ls hrel_306 hrel_307 hm_300 hG hP hD hS hl; exact absurd hm_300 (Nat.not_lt_zero _)
            | succ n_301 ih_303 =>
              intro I_237 ri_238 H locs ls hrel_306 hrel_307 hm_300 hG hP hD hS hl
              refine lv_aload_n hx hb dX4_settle_0 rfl (lv_at hl 0 rfl) ?_
              refine pg_f (v := .int (I_237 134 this)) (C := RX4) (T := TX4) (N := 12) hx hb hts (tw_i inlX4) hown hK hP hL_this hK_this (by decide) rfl 6 (by decide) (hts _ (tw_c tw_758)) rfl dX4_settle_1 ?_
              have h_308 : rg (I_237 134 this) 0 40 := GX.rI hG 134 rfl
              have uh_308 := h_308.1
              have vh_308 := h_308.2
              refine lv_if_le (tgt := 76) hx hb dX4_settle_4 (by decide) (fun c_309 => ?_) (fun c_309 => ?_)
              · have tc_310 : (I_237 134 this).toInt ≤ 0 := Int32.le_iff_toInt_le.mp c_309
                have h_311 : rg (I_237 134 this) 0 0 := rg_le1 c_309 h_308 (rg_k (0 : Int32) 0 rfl) (by decide)
                have uh_311 := h_311.1
                have vh_311 := h_311.2
                subst hQ
                exact W.vret hx hb hr (fun t1 ht hW => ⟨⟨(σ, I_237, J, ri_238, rj, rq), rfl, ⟨I_237, ri_238, rfl, hG, (by omega), hrel_307⟩, by rw [ht]; exact hP, va_K.moved hW.alike hK, hD⟩, hS.F ht⟩) hS.2.2 dX4_settle_76
              · have tc_312 : 0 < (I_237 134 this).toInt := Int32.lt_iff_toInt_lt.mp (nle c_309)
                have h_313 : rg (I_237 134 this) 1 40 := rg_lt2 (nle c_309) (rg_k (0 : Int32) 0 rfl) h_308 (by decide)
                have uh_313 := h_313.1
                have vh_313 := h_313.2
                refine lv_aload_n hx hb dX4_settle_7 rfl (lv_at hl 0 rfl) ?_
                refine pg_f (v := .ref w_7) (C := RX4) (T := TX4) (N := 12) hx hb hts (tw_i inlX4) hown hK hP hL_this hK_this (by decide) rfl 5 (by decide) (hts _ (tw_c tw_161)) (pq_hv rfl hR_w_7) dX4_settle_8 ?_
                refine lv_aload_n hx hb dX4_settle_11 rfl (lv_at hl 0 rfl) ?_
                refine pg_f (v := .int (I_237 134 this)) (C := RX4) (T := TX4) (N := 12) hx hb hts (tw_i inlX4) hown hK hP hL_this hK_this (by decide) rfl 6 (by decide) (hts _ (tw_c tw_758)) rfl dX4_settle_12 ?_
                refine lv_iconst (v := 1) hx hb dX4_settle_15 (by decide) ?_
                refine lv_isub hx hb dX4_settle_16 ?_
                refine lv_topi (fun x_314 ex_314 => ?_)
                have h_315 : rg x_314 0 39 := rg_of_eq ex_314 (rg_sub h_313 (rg_k (1 : Int32) 1 rfl) (by decide))
                have uh_315 := h_315.1
                have vh_315 := h_315.2
                have tx_314 : (x_314).toInt = (I_237 134 this).toInt - 1 := by rw [ex_314]; exact i_sub_rg (a2 := (I_237 134 this).toInt) (b2 := 1) rfl rfl h_313 (rg_k (1 : Int32) 1 rfl) (by decide)
                refine pl_i hx hb hK hP hL_w_7 hK_w_7 hN_w_7 (rg_in h_315 (by decide)) dX4_settle_17 ?_
                refine lv_topi (fun x_316 ex_316 => ?_)
                refine pk_i (va_runS (As := [.int x_316]) (rest := []) ⟨hx, hb, hml, hown, hts⟩ (s_X4_rank l D t σ I_237 J ri_238 rj rq H.size tg hSH hG.1 x_316) (va_cwS 1 hts (tw_S tw_790 tw_791 tw_25 tw_792) rfl rfl rfl cd_yX4_rank_1 ⟨Nat.le_of_ble_eq_true rfl, Nat.le_of_ble_eq_true rfl⟩) ⟨pq_blind, pq_pre hK hN hP hD⟩ rfl rfl hl.1 rfl (lv_room (Nat.le_of_ble_eq_true rfl)) dX4_settle_18 ⟨Nat.le_of_ble_eq_true rfl, Nat.le_of_ble_eq_true rfl⟩) hD hS hA (fun x_317 σ1 μ1 H locs hw_318 hP hD hS => ?_)
                obtain ⟨hu_319, hr_321⟩ := hw_318
                obtain ⟨hu_319a, hu_319b⟩ := Prod.mk.inj hu_319
                rw [hu_319a, hu_319b] at hP hD
                refine lv_iload_n hx hb dX4_settle_21 rfl (lv_at hl 1 rfl) ?_
                refine lv_icmp_lt (tgt := 76) hx hb dX4_settle_22 (by decide) (fun c_322 => ?_) (fun c_322 => ?_)
                · have tc_323 : (x_317).toInt < (a0).toInt := Int32.lt_iff_toInt_lt.mp c_322
                  have h_324 : rg x_317 0 6 := rg_lt1 c_322 hr_321 h_20 (by decide)
                  have uh_324 := h_324.1
                  have vh_324 := h_324.2
                  have h_325 : rg a0 1 7 := rg_lt2 c_322 hr_321 h_20 (by decide)
                  have uh_325 := h_325.1
                  have vh_325 := h_325.2
                  subst hQ
                  exact W.vret hx hb hr (fun t1 ht hW => ⟨⟨(σ, I_237, J, ri_238, rj, rq), rfl, ⟨I_237, ri_238, rfl, hG, (by omega), hrel_307⟩, by rw [ht]; exact hP, va_K.moved hW.alike hK, hD⟩, hS.F ht⟩) hS.2.2 dX4_settle_76
                · have tc_326 : (a0).toInt ≤ (x_317).toInt := Int32.le_iff_toInt_le.mp (nlt c_322)
                  refine lv_aload_n hx hb dX4_settle_25 rfl (lv_at hl 0 rfl) ?_
                  refine lv_dup hx hb dX4_settle_26 rfl ?_
                  refine pg_f (v := .int (I_237 134 this)) (C := RX4) (T := TX4) (N := 12) hx hb hts (tw_i inlX4) hown hK hP hL_this hK_this (by decide) rfl 6 (by decide) (hts _ (tw_c tw_758)) rfl dX4_settle_27 ?_
                  refine lv_iconst (v := 1) hx hb dX4_settle_30 (by decide) ?_
                  refine lv_isub hx hb dX4_settle_31 ?_
                  refine lv_topi (fun x_327 ex_327 => ?_)
                  have h_328 : rg x_327 0 39 := rg_of_eq ex_327 (rg_sub h_313 (rg_k (1 : Int32) 1 rfl) (by decide))
                  have uh_328 := h_328.1
                  have vh_328 := h_328.2
                  have tx_327 : (x_327).toInt = (I_237 134 this).toInt - 1 := by rw [ex_327]; exact i_sub_rg (a2 := (I_237 134 this).toInt) (b2 := 1) rfl rfl h_313 (rg_k (1 : Int32) 1 rfl) (by decide)
                  refine pp_i (v := x_327) (ty := .int) (C := RX4) (T := TX4) (N := 12) hx hb hts (tw_i inlX4) tyX4 tyX4_ok nmX4 hown hK hP hD hS hL_this hK_this (by decide) rfl 6 134 (by decide) (hts _ (tw_c tw_758)) rfl (tyX4_ok 6 (by decide)) rfl rfl (Nat.le_of_ble_eq_true rfl) (ps_134 _ _ _ _ _) dX4_settle_32 (fun I_329 H locs eI_329 hP hD hS => ?_)
                  have hG := GX.wI hG 134 rfl eI_329 (rg_w h_328 (by decide)) (by decide)
                  have tt_330 : (I_329 132 this).toInt = (I_237 132 this).toInt := by rw [eI_329, pq_uf _ _ _ (by decide)]
                  have tt_331 : (I_329 134 this).toInt = (x_327).toInt := by rw [eI_329, pq_us]
                  have tt_332 : (I_329 129 this).toInt = (I_237 129 this).toInt := by rw [eI_329, pq_uf _ _ _ (by decide)]
                  refine lv_aload_n hx hb dX4_settle_35 rfl (lv_at hl 0 rfl) ?_
                  refine pg_f (v := .ref w_7) (C := RX4) (T := TX4) (N := 12) hx hb hts (tw_i inlX4) hown hK hP hL_this hK_this (by decide) rfl 5 (by decide) (hts _ (tw_c tw_161)) (pq_hv rfl hR_w_7) dX4_settle_36 ?_
                  refine lv_aload_n hx hb dX4_settle_39 rfl (lv_at hl 0 rfl) ?_
                  refine pg_f (v := .int (I_329 134 this)) (C := RX4) (T := TX4) (N := 12) hx hb hts (tw_i inlX4) hown hK hP hL_this hK_this (by decide) rfl 6 (by decide) (hts _ (tw_c tw_758)) rfl dX4_settle_40 ?_
                  have h_333 : rg (I_329 134 this) 0 39 := (by rw [eI_329, pq_us]; exact h_328)
                  have uh_333 := h_333.1
                  have vh_333 := h_333.2
                  refine pl_i hx hb hK hP hL_w_7 hK_w_7 hN_w_7 (rg_in h_333 (by decide)) dX4_settle_43 ?_
                  refine lv_topi (fun x_334 ex_334 => ?_)
                  refine lv_istore_n (lv' := [(2, .int x_334), (0, .ref this), (1, .int a0)]) hx hb dX4_settle_44 rfl hl (by decide) rfl (fun ls hl => ?_)
                  refine lv_aload_n hx hb dX4_settle_45 rfl (lv_at hl 1 rfl) ?_
                  refine lv_iload_n hx hb dX4_settle_46 rfl (lv_at hl 0 rfl) ?_
                  refine lv_ineg hx hb dX4_settle_47 ?_
                  refine lv_topi (fun x_335 ex_335 => ?_)
                  refine pk_v (va_runV (As := [.int x_335]) (rest := []) ⟨hx, hb, hml, hown, hts⟩ (s_X4_emit l D t σ I_329 J ri_238 rj rq H.size tg hSH hG.1 this x_335 hL_this hK_this) (cwV 1 hts (tw_V tw_769 tw_770 tw_771 tw_25 tw_772) rfl rfl rfl cv_yX4_emit_1 ⟨Nat.le_of_ble_eq_true rfl, Nat.le_of_ble_eq_true rfl⟩) ⟨pq_blind, pq_recv hK hP hL_this hK_this (by decide) rfl, pq_pre hK hN hP hD⟩ rfl rfl hl.1 rfl (lv_room (Nat.le_of_ble_eq_true rfl)) dX4_settle_48 ⟨Nat.le_of_ble_eq_true rfl, Nat.le_of_ble_eq_true rfl⟩) hD hS hA (fun σ1 μ1 H locs hw_337 hP hD hS => ?_)
                  obtain ⟨I_338, ri_339, hu_340, hg_341, hp_343, hp_344⟩ := hw_337
                  obtain ⟨hu_340a, hu_340b⟩ := Prod.mk.inj hu_340
                  rw [hu_340a, hu_340b] at hP hD
                  have tt_345 := hp_343
                  have tt_346 := hp_344
                  have hG := GX.tr hG hg_341 (by decide)
                  have tt_347 : (I_338 134 this).toInt = (I_329 134 this).toInt := by rw [hg_341.2.1 134 (by decide) (by decide)]
                  have tt_348 : (I_338 129 this).toInt = (I_329 129 this).toInt := by rw [hg_341.2.1 129 (by decide) (by decide)]
                  refine lv_iload_n hx hb dX4_settle_51 rfl (lv_at hl 0 rfl) ?_
                  refine lv_bipush (v := 11) hx hb dX4_settle_52 (by decide) ?_
                  refine lv_icmp_eq (tgt := 63) hx hb dX4_settle_54 (by decide) (fun c_349 => ?_) (fun c_349 => ?_)
                  · have tc_350 : (x_334).toInt = 11 := congrArg Int32.toInt c_349
                    have h_351 : rg x_334 11 11 := rg_and (rg_full _) (rg_of_eq c_349 (rg_k (11 : Int32) 11 rfl)) (by decide)
                    have uh_351 := h_351.1
                    have vh_351 := h_351.2
                    refine lv_aload_n hx hb dX4_settle_63 rfl (lv_at hl 1 rfl) ?_
                    refine lv_dup hx hb dX4_settle_64 rfl ?_
                    refine pg_f (v := .int (I_338 135 this)) (C := RX4) (T := TX4) (N := 12) hx hb hts (tw_i inlX4) hown hK hP hL_this hK_this (by decide) rfl 7 (by decide) (hts _ (tw_c tw_759)) rfl dX4_settle_65 ?_
                    refine lv_iconst (v := 1) hx hb dX4_settle_68 (by decide) ?_
                    refine lv_isub hx hb dX4_settle_69 ?_
                    refine lv_topi (fun x_352 ex_352 => ?_)
                    refine pp_i (v := x_352) (ty := .int) (C := RX4) (T := TX4) (N := 12) hx hb hts (tw_i inlX4) tyX4 tyX4_ok nmX4 hown hK hP hD hS hL_this hK_this (by decide) rfl 7 135 (by decide) (hts _ (tw_c tw_759)) rfl (tyX4_ok 7 (by decide)) rfl rfl (Nat.le_of_ble_eq_true rfl) (ps_135 _ _ _ _ _) dX4_settle_70 (fun I_353 H locs eI_353 hP hD hS => ?_)
                    have hG := GX.wI hG 135 rfl eI_353 (rg_w (rg_full _) (by decide)) (by decide)
                    have tt_354 : (I_353 132 this).toInt = (I_338 132 this).toInt := by rw [eI_353, pq_uf _ _ _ (by decide)]
                    have tt_355 : (I_353 134 this).toInt = (I_338 134 this).toInt := by rw [eI_353, pq_uf _ _ _ (by decide)]
                    have tt_356 : (I_353 129 this).toInt = (I_338 129 this).toInt := by rw [eI_353, pq_uf _ _ _ (by decide)]
                    refine lv_goto (tgt := 0) hx hb dX4_settle_73 (by decide) ?_
                    exact ih_303 I_353 ri_339 _ _ _ (by omega) (ft_t hrel_307 hp_344) (ms_fd_isub hm_300 ((congrFun (show I_353 134 = I_338 134 from by rw [eI_353]; exact pq_uf _ _ _ (by decide)) this).trans ((congrFun (hg_341.2.1 134 (by decide) (by decide)) this).trans (by rw [eI_329]; exact pq_us _ _ _ _))) ex_327 rfl (kk := 1) rfl (by decide) h_313 (by decide) (by decide)) hG hP hD hS (lv_sub hl [1, 2] rfl)
                  · have tc_357 : (x_334).toInt ≠ 11 := fun q => c_349 (Int32.toInt_inj.mp q)
                    refine lv_iload_n hx hb dX4_settle_57 rfl (lv_at hl 0 rfl) ?_
                    refine lv_bipush (v := 35) hx hb dX4_settle_58 (by decide) ?_
                    refine lv_icmp_ne (tgt := 73) hx hb dX4_settle_60 (by decide) (fun c_358 => ?_) (fun c_358 => ?_)
                    · have tc_359 : (x_334).toInt ≠ 35 := fun q => c_358 (Int32.toInt_inj.mp q)
                      refine lv_goto (tgt := 0) hx hb dX4_settle_73 (by decide) ?_
                      exact ih_303 I_338 ri_339 _ _ _ (by omega) (ft_t hrel_307 hp_344) (ms_fd_isub hm_300 ((congrFun (hg_341.2.1 134 (by decide) (by decide)) this).trans (by rw [eI_329]; exact pq_us _ _ _ _)) ex_327 rfl (kk := 1) rfl (by decide) h_313 (by decide) (by decide)) hG hP hD hS (lv_sub hl [1, 2] rfl)
                    · have tc_360 : (x_334).toInt = 35 := congrArg Int32.toInt c_358
                      have h_361 : rg x_334 35 35 := rg_and (rg_full _) (rg_of_eq c_358 (rg_k (35 : Int32) 35 rfl)) (by decide)
                      have uh_361 := h_361.1
                      have vh_361 := h_361.2
                      refine lv_aload_n hx hb dX4_settle_63 rfl (lv_at hl 1 rfl) ?_
                      refine lv_dup hx hb dX4_settle_64 rfl ?_
                      refine pg_f (v := .int (I_338 135 this)) (C := RX4) (T := TX4) (N := 12) hx hb hts (tw_i inlX4) hown hK hP hL_this hK_this (by decide) rfl 7 (by decide) (hts _ (tw_c tw_759)) rfl dX4_settle_65 ?_
                      refine lv_iconst (v := 1) hx hb dX4_settle_68 (by decide) ?_
                      refine lv_isub hx hb dX4_settle_69 ?_
                      refine lv_topi (fun x_362 ex_362 => ?_)
                      refine pp_i (v := x_362) (ty := .int) (C := RX4) (T := TX4) (N := 12) hx hb hts (tw_i inlX4) tyX4 tyX4_ok nmX4 hown hK hP hD hS hL_this hK_this (by decide) rfl 7 135 (by decide) (hts _ (tw_c tw_759)) rfl (tyX4_ok 7 (by decide)) rfl rfl (Nat.le_of_ble_eq_true rfl) (ps_135 _ _ _ _ _) dX4_settle_70 (fun I_363 H locs eI_363 hP hD hS => ?_)
                      have hG := GX.wI hG 135 rfl eI_363 (rg_w (rg_full _) (by decide)) (by decide)
                      have tt_364 : (I_363 132 this).toInt = (I_338 132 this).toInt := by rw [eI_363, pq_uf _ _ _ (by decide)]
                      have tt_365 : (I_363 134 this).toInt = (I_338 134 this).toInt := by rw [eI_363, pq_uf _ _ _ (by decide)]
                      have tt_366 : (I_363 129 this).toInt = (I_338 129 this).toInt := by rw [eI_363, pq_uf _ _ _ (by decide)]
                      refine lv_goto (tgt := 0) hx hb dX4_settle_73 (by decide) ?_
                      exact ih_303 I_363 ri_339 _ _ _ (by omega) (ft_t hrel_307 hp_344) (ms_fd_isub hm_300 ((congrFun (show I_363 134 = I_338 134 from by rw [eI_363]; exact pq_uf _ _ _ (by decide)) this).trans ((congrFun (hg_341.2.1 134 (by decide) (by decide)) this).trans (by rw [eI_329]; exact pq_us _ _ _ _))) ex_327 rfl (kk := 1) rfl (by decide) h_313 (by decide) (by decide)) hG hP hD hS (lv_sub hl [1, 2] rfl)
          exact L_302 _ I_47 ri_33 _ _ _ (by omega) (ft_t (fun _ _ => rfl) hp_38) (Nat.lt_succ_self _) hG hP hD hS (lv_sub hl [1, 2] rfl)
        · have tc_367 : (x_28).toInt ≠ 11 := fun q => c_43 (Int32.toInt_inj.mp q)
          refine lv_iload_n hx hb dX4_settle_57 rfl (lv_at hl 0 rfl) ?_
          refine lv_bipush (v := 35) hx hb dX4_settle_58 (by decide) ?_
          refine lv_icmp_ne (tgt := 73) hx hb dX4_settle_60 (by decide) (fun c_368 => ?_) (fun c_368 => ?_)
          · have tc_369 : (x_28).toInt ≠ 35 := fun q => c_368 (Int32.toInt_inj.mp q)
            refine lv_goto (tgt := 0) hx hb dX4_settle_73 (by decide) ?_
            have L_621 : ∀ (n_620 : Nat) (I_556 : Nat → Nat → Int32) (ri_557 : Nat → Nat → Int32) (H : Heap) (locs : List Loc) (ls : Array Slot), ((I_556 132 this).toInt + (I_556 134 this).toInt ≤ (I 132 this).toInt + (I 134 this).toInt) → (∀ q, tg q = 258 → ri_557 q = ri q) → ((I_556 134 this).toInt - 0).toNat < n_620 → GX [132, 134] tg σ I ri rj I_556 ri_557 rj rq → va_P D vwCl (pq_P t σ (I_556, J, ri_557, rj, rq)) H → va_D A (pq_P t σ (I_556, J, ri_557, rj, rq)) → va_S A s.heap H locs → lv_has ls 3 [(0, .ref this), (1, .int a0)] → W p l e ({ frames := 1, cells := 0, slots := 0, locals := 21 } : Room) s m (List.toArray ([.ref this, .int a0] : List Value)) below meth c H locs 0 0 Q (F0 m 0 ls []) := by
              intro n_620
              induction n_620 with
              | zero => intro I_556 ri_557 H locs ls hrel_625 hrel_626 hm_619 hG hP hD hS hl; exact absurd hm_619 (Nat.not_lt_zero _)
              | succ n_620 ih_622 =>
                intro I_556 ri_557 H locs ls hrel_625 hrel_626 hm_619 hG hP hD hS hl
                refine lv_aload_n hx hb dX4_settle_0 rfl (lv_at hl 0 rfl) ?_
                refine pg_f (v := .int (I_556 134 this)) (C := RX4) (T := TX4) (N := 12) hx hb hts (tw_i inlX4) hown hK hP hL_this hK_this (by decide) rfl 6 (by decide) (hts _ (tw_c tw_758)) rfl dX4_settle_1 ?_
                have h_627 : rg (I_556 134 this) 0 40 := GX.rI hG 134 rfl
                have uh_627 := h_627.1
                have vh_627 := h_627.2
                refine lv_if_le (tgt := 76) hx hb dX4_settle_4 (by decide) (fun c_628 => ?_) (fun c_628 => ?_)
                · have tc_629 : (I_556 134 this).toInt ≤ 0 := Int32.le_iff_toInt_le.mp c_628
                  have h_630 : rg (I_556 134 this) 0 0 := rg_le1 c_628 h_627 (rg_k (0 : Int32) 0 rfl) (by decide)
                  have uh_630 := h_630.1
                  have vh_630 := h_630.2
                  subst hQ
                  exact W.vret hx hb hr (fun t1 ht hW => ⟨⟨(σ, I_556, J, ri_557, rj, rq), rfl, ⟨I_556, ri_557, rfl, hG, (by omega), hrel_626⟩, by rw [ht]; exact hP, va_K.moved hW.alike hK, hD⟩, hS.F ht⟩) hS.2.2 dX4_settle_76
                · have tc_631 : 0 < (I_556 134 this).toInt := Int32.lt_iff_toInt_lt.mp (nle c_628)
                  have h_632 : rg (I_556 134 this) 1 40 := rg_lt2 (nle c_628) (rg_k (0 : Int32) 0 rfl) h_627 (by decide)
                  have uh_632 := h_632.1
                  have vh_632 := h_632.2
                  refine lv_aload_n hx hb dX4_settle_7 rfl (lv_at hl 0 rfl) ?_
                  refine pg_f (v := .ref w_7) (C := RX4) (T := TX4) (N := 12) hx hb hts (tw_i inlX4) hown hK hP hL_this hK_this (by decide) rfl 5 (by decide) (hts _ (tw_c tw_161)) (pq_hv rfl hR_w_7) dX4_settle_8 ?_
                  refine lv_aload_n hx hb dX4_settle_11 rfl (lv_at hl 0 rfl) ?_
                  refine pg_f (v := .int (I_556 134 this)) (C := RX4) (T := TX4) (N := 12) hx hb hts (tw_i inlX4) hown hK hP hL_this hK_this (by decide) rfl 6 (by decide) (hts _ (tw_c tw_758)) rfl dX4_settle_12 ?_
                  refine lv_iconst (v := 1) hx hb dX4_settle_15 (by decide) ?_
                  refine lv_isub hx hb dX4_settle_16 ?_
                  refine lv_topi (fun x_633 ex_633 => ?_)
                  have h_634 : rg x_633 0 39 := rg_of_eq ex_633 (rg_sub h_632 (rg_k (1 : Int32) 1 rfl) (by decide))
                  have uh_634 := h_634.1
                  have vh_634 := h_634.2
                  have tx_633 : (x_633).toInt = (I_556 134 this).toInt - 1 := by rw [ex_633]; exact i_sub_rg (a2 := (I_556 134 this).toInt) (b2 := 1) rfl rfl h_632 (rg_k (1 : Int32) 1 rfl) (by decide)
                  refine pl_i hx hb hK hP hL_w_7 hK_w_7 hN_w_7 (rg_in h_634 (by decide)) dX4_settle_17 ?_
                  refine lv_topi (fun x_635 ex_635 => ?_)
                  refine pk_i (va_runS (As := [.int x_635]) (rest := []) ⟨hx, hb, hml, hown, hts⟩ (s_X4_rank l D t σ I_556 J ri_557 rj rq H.size tg hSH hG.1 x_635) (va_cwS 1 hts (tw_S tw_790 tw_791 tw_25 tw_792) rfl rfl rfl cd_yX4_rank_1 ⟨Nat.le_of_ble_eq_true rfl, Nat.le_of_ble_eq_true rfl⟩) ⟨pq_blind, pq_pre hK hN hP hD⟩ rfl rfl hl.1 rfl (lv_room (Nat.le_of_ble_eq_true rfl)) dX4_settle_18 ⟨Nat.le_of_ble_eq_true rfl, Nat.le_of_ble_eq_true rfl⟩) hD hS hA (fun x_636 σ1 μ1 H locs hw_637 hP hD hS => ?_)
                  obtain ⟨hu_638, hr_640⟩ := hw_637
                  obtain ⟨hu_638a, hu_638b⟩ := Prod.mk.inj hu_638
                  rw [hu_638a, hu_638b] at hP hD
                  refine lv_iload_n hx hb dX4_settle_21 rfl (lv_at hl 1 rfl) ?_
                  refine lv_icmp_lt (tgt := 76) hx hb dX4_settle_22 (by decide) (fun c_641 => ?_) (fun c_641 => ?_)
                  · have tc_642 : (x_636).toInt < (a0).toInt := Int32.lt_iff_toInt_lt.mp c_641
                    have h_643 : rg x_636 0 6 := rg_lt1 c_641 hr_640 h_20 (by decide)
                    have uh_643 := h_643.1
                    have vh_643 := h_643.2
                    have h_644 : rg a0 1 7 := rg_lt2 c_641 hr_640 h_20 (by decide)
                    have uh_644 := h_644.1
                    have vh_644 := h_644.2
                    subst hQ
                    exact W.vret hx hb hr (fun t1 ht hW => ⟨⟨(σ, I_556, J, ri_557, rj, rq), rfl, ⟨I_556, ri_557, rfl, hG, (by omega), hrel_626⟩, by rw [ht]; exact hP, va_K.moved hW.alike hK, hD⟩, hS.F ht⟩) hS.2.2 dX4_settle_76
                  · have tc_645 : (a0).toInt ≤ (x_636).toInt := Int32.le_iff_toInt_le.mp (nlt c_641)
                    refine lv_aload_n hx hb dX4_settle_25 rfl (lv_at hl 0 rfl) ?_
                    refine lv_dup hx hb dX4_settle_26 rfl ?_
                    refine pg_f (v := .int (I_556 134 this)) (C := RX4) (T := TX4) (N := 12) hx hb hts (tw_i inlX4) hown hK hP hL_this hK_this (by decide) rfl 6 (by decide) (hts _ (tw_c tw_758)) rfl dX4_settle_27 ?_
                    refine lv_iconst (v := 1) hx hb dX4_settle_30 (by decide) ?_
                    refine lv_isub hx hb dX4_settle_31 ?_
                    refine lv_topi (fun x_646 ex_646 => ?_)
                    have h_647 : rg x_646 0 39 := rg_of_eq ex_646 (rg_sub h_632 (rg_k (1 : Int32) 1 rfl) (by decide))
                    have uh_647 := h_647.1
                    have vh_647 := h_647.2
                    have tx_646 : (x_646).toInt = (I_556 134 this).toInt - 1 := by rw [ex_646]; exact i_sub_rg (a2 := (I_556 134 this).toInt) (b2 := 1) rfl rfl h_632 (rg_k (1 : Int32) 1 rfl) (by decide)
                    refine pp_i (v := x_646) (ty := .int) (C := RX4) (T := TX4) (N := 12) hx hb hts (tw_i inlX4) tyX4 tyX4_ok nmX4 hown hK hP hD hS hL_this hK_this (by decide) rfl 6 134 (by decide) (hts _ (tw_c tw_758)) rfl (tyX4_ok 6 (by decide)) rfl rfl (Nat.le_of_ble_eq_true rfl) (ps_134 _ _ _ _ _) dX4_settle_32 (fun I_648 H locs eI_648 hP hD hS => ?_)
                    have hG := GX.wI hG 134 rfl eI_648 (rg_w h_647 (by decide)) (by decide)
                    have tt_649 : (I_648 132 this).toInt = (I_556 132 this).toInt := by rw [eI_648, pq_uf _ _ _ (by decide)]
                    have tt_650 : (I_648 134 this).toInt = (x_646).toInt := by rw [eI_648, pq_us]
                    have tt_651 : (I_648 129 this).toInt = (I_556 129 this).toInt := by rw [eI_648, pq_uf _ _ _ (by decide)]
                    refine lv_aload_n hx hb dX4_settle_35 rfl (lv_at hl 0 rfl) ?_
                    refine pg_f (v := .ref w_7) (C := RX4) (T := TX4) (N := 12) hx hb hts (tw_i inlX4) hown hK hP hL_this hK_this (by decide) rfl 5 (by decide) (hts _ (tw_c tw_161)) (pq_hv rfl hR_w_7) dX4_settle_36 ?_
                    refine lv_aload_n hx hb dX4_settle_39 rfl (lv_at hl 0 rfl) ?_
                    refine pg_f (v := .int (I_648 134 this)) (C := RX4) (T := TX4) (N := 12) hx hb hts (tw_i inlX4) hown hK hP hL_this hK_this (by decide) rfl 6 (by decide) (hts _ (tw_c tw_758)) rfl dX4_settle_40 ?_
                    have h_652 : rg (I_648 134 this) 0 39 := (by rw [eI_648, pq_us]; exact h_647)
                    have uh_652 := h_652.1
                    have vh_652 := h_652.2
                    refine pl_i hx hb hK hP hL_w_7 hK_w_7 hN_w_7 (rg_in h_652 (by decide)) dX4_settle_43 ?_
                    refine lv_topi (fun x_653 ex_653 => ?_)
                    refine lv_istore_n (lv' := [(2, .int x_653), (0, .ref this), (1, .int a0)]) hx hb dX4_settle_44 rfl hl (by decide) rfl (fun ls hl => ?_)
                    refine lv_aload_n hx hb dX4_settle_45 rfl (lv_at hl 1 rfl) ?_
                    refine lv_iload_n hx hb dX4_settle_46 rfl (lv_at hl 0 rfl) ?_
                    refine lv_ineg hx hb dX4_settle_47 ?_
                    refine lv_topi (fun x_654 ex_654 => ?_)
                    refine pk_v (va_runV (As := [.int x_654]) (rest := []) ⟨hx, hb, hml, hown, hts⟩ (s_X4_emit l D t σ I_648 J ri_557 rj rq H.size tg hSH hG.1 this x_654 hL_this hK_this) (cwV 1 hts (tw_V tw_769 tw_770 tw_771 tw_25 tw_772) rfl rfl rfl cv_yX4_emit_1 ⟨Nat.le_of_ble_eq_true rfl, Nat.le_of_ble_eq_true rfl⟩) ⟨pq_blind, pq_recv hK hP hL_this hK_this (by decide) rfl, pq_pre hK hN hP hD⟩ rfl rfl hl.1 rfl (lv_room (Nat.le_of_ble_eq_true rfl)) dX4_settle_48 ⟨Nat.le_of_ble_eq_true rfl, Nat.le_of_ble_eq_true rfl⟩) hD hS hA (fun σ1 μ1 H locs hw_656 hP hD hS => ?_)
                    obtain ⟨I_657, ri_658, hu_659, hg_660, hp_662, hp_663⟩ := hw_656
                    obtain ⟨hu_659a, hu_659b⟩ := Prod.mk.inj hu_659
                    rw [hu_659a, hu_659b] at hP hD
                    have tt_664 := hp_662
                    have tt_665 := hp_663
                    have hG := GX.tr hG hg_660 (by decide)
                    have tt_666 : (I_657 134 this).toInt = (I_648 134 this).toInt := by rw [hg_660.2.1 134 (by decide) (by decide)]
                    have tt_667 : (I_657 129 this).toInt = (I_648 129 this).toInt := by rw [hg_660.2.1 129 (by decide) (by decide)]
                    refine lv_iload_n hx hb dX4_settle_51 rfl (lv_at hl 0 rfl) ?_
                    refine lv_bipush (v := 11) hx hb dX4_settle_52 (by decide) ?_
                    refine lv_icmp_eq (tgt := 63) hx hb dX4_settle_54 (by decide) (fun c_668 => ?_) (fun c_668 => ?_)
                    · have tc_669 : (x_653).toInt = 11 := congrArg Int32.toInt c_668
                      have h_670 : rg x_653 11 11 := rg_and (rg_full _) (rg_of_eq c_668 (rg_k (11 : Int32) 11 rfl)) (by decide)
                      have uh_670 := h_670.1
                      have vh_670 := h_670.2
                      refine lv_aload_n hx hb dX4_settle_63 rfl (lv_at hl 1 rfl) ?_
                      refine lv_dup hx hb dX4_settle_64 rfl ?_
                      refine pg_f (v := .int (I_657 135 this)) (C := RX4) (T := TX4) (N := 12) hx hb hts (tw_i inlX4) hown hK hP hL_this hK_this (by decide) rfl 7 (by decide) (hts _ (tw_c tw_759)) rfl dX4_settle_65 ?_
                      refine lv_iconst (v := 1) hx hb dX4_settle_68 (by decide) ?_
                      refine lv_isub hx hb dX4_settle_69 ?_
                      refine lv_topi (fun x_671 ex_671 => ?_)
                      refine pp_i (v := x_671) (ty := .int) (C := RX4) (T := TX4) (N := 12) hx hb hts (tw_i inlX4) tyX4 tyX4_ok nmX4 hown hK hP hD hS hL_this hK_this (by decide) rfl 7 135 (by decide) (hts _ (tw_c tw_759)) rfl (tyX4_ok 7 (by decide)) rfl rfl (Nat.le_of_ble_eq_true rfl) (ps_135 _ _ _ _ _) dX4_settle_70 (fun I_672 H locs eI_672 hP hD hS => ?_)
                      have hG := GX.wI hG 135 rfl eI_672 (rg_w (rg_full _) (by decide)) (by decide)
                      have tt_673 : (I_672 132 this).toInt = (I_657 132 this).toInt := by rw [eI_672, pq_uf _ _ _ (by decide)]
                      have tt_674 : (I_672 134 this).toInt = (I_657 134 this).toInt := by rw [eI_672, pq_uf _ _ _ (by decide)]
                      have tt_675 : (I_672 129 this).toInt = (I_657 129 this).toInt := by rw [eI_672, pq_uf _ _ _ (by decide)]
                      refine lv_goto (tgt := 0) hx hb dX4_settle_73 (by decide) ?_
                      exact ih_622 I_672 ri_658 _ _ _ (by omega) (ft_t hrel_626 hp_663) (ms_fd_isub hm_619 ((congrFun (show I_672 134 = I_657 134 from by rw [eI_672]; exact pq_uf _ _ _ (by decide)) this).trans ((congrFun (hg_660.2.1 134 (by decide) (by decide)) this).trans (by rw [eI_648]; exact pq_us _ _ _ _))) ex_646 rfl (kk := 1) rfl (by decide) h_632 (by decide) (by decide)) hG hP hD hS (lv_sub hl [1, 2] rfl)
                    · have tc_676 : (x_653).toInt ≠ 11 := fun q => c_668 (Int32.toInt_inj.mp q)
                      refine lv_iload_n hx hb dX4_settle_57 rfl (lv_at hl 0 rfl) ?_
                      refine lv_bipush (v := 35) hx hb dX4_settle_58 (by decide) ?_
                      refine lv_icmp_ne (tgt := 73) hx hb dX4_settle_60 (by decide) (fun c_677 => ?_) (fun c_677 => ?_)
                      · have tc_678 : (x_653).toInt ≠ 35 := fun q => c_677 (Int32.toInt_inj.mp q)
                        refine lv_goto (tgt := 0) hx hb dX4_settle_73 (by decide) ?_
                        exact ih_622 I_657 ri_658 _ _ _ (by omega) (ft_t hrel_626 hp_663) (ms_fd_isub hm_619 ((congrFun (hg_660.2.1 134 (by decide) (by decide)) this).trans (by rw [eI_648]; exact pq_us _ _ _ _)) ex_646 rfl (kk := 1) rfl (by decide) h_632 (by decide) (by decide)) hG hP hD hS (lv_sub hl [1, 2] rfl)
                      · have tc_679 : (x_653).toInt = 35 := congrArg Int32.toInt c_677
                        have h_680 : rg x_653 35 35 := rg_and (rg_full _) (rg_of_eq c_677 (rg_k (35 : Int32) 35 rfl)) (by decide)
                        have uh_680 := h_680.1
                        have vh_680 := h_680.2
                        refine lv_aload_n hx hb dX4_settle_63 rfl (lv_at hl 1 rfl) ?_
                        refine lv_dup hx hb dX4_settle_64 rfl ?_
                        refine pg_f (v := .int (I_657 135 this)) (C := RX4) (T := TX4) (N := 12) hx hb hts (tw_i inlX4) hown hK hP hL_this hK_this (by decide) rfl 7 (by decide) (hts _ (tw_c tw_759)) rfl dX4_settle_65 ?_
                        refine lv_iconst (v := 1) hx hb dX4_settle_68 (by decide) ?_
                        refine lv_isub hx hb dX4_settle_69 ?_
                        refine lv_topi (fun x_681 ex_681 => ?_)
                        refine pp_i (v := x_681) (ty := .int) (C := RX4) (T := TX4) (N := 12) hx hb hts (tw_i inlX4) tyX4 tyX4_ok nmX4 hown hK hP hD hS hL_this hK_this (by decide) rfl 7 135 (by decide) (hts _ (tw_c tw_759)) rfl (tyX4_ok 7 (by decide)) rfl rfl (Nat.le_of_ble_eq_true rfl) (ps_135 _ _ _ _ _) dX4_settle_70 (fun I_682 H locs eI_682 hP hD hS => ?_)
                        have hG := GX.wI hG 135 rfl eI_682 (rg_w (rg_full _) (by decide)) (by decide)
                        have tt_683 : (I_682 132 this).toInt = (I_657 132 this).toInt := by rw [eI_682, pq_uf _ _ _ (by decide)]
                        have tt_684 : (I_682 134 this).toInt = (I_657 134 this).toInt := by rw [eI_682, pq_uf _ _ _ (by decide)]
                        have tt_685 : (I_682 129 this).toInt = (I_657 129 this).toInt := by rw [eI_682, pq_uf _ _ _ (by decide)]
                        refine lv_goto (tgt := 0) hx hb dX4_settle_73 (by decide) ?_
                        exact ih_622 I_682 ri_658 _ _ _ (by omega) (ft_t hrel_626 hp_663) (ms_fd_isub hm_619 ((congrFun (show I_682 134 = I_657 134 from by rw [eI_682]; exact pq_uf _ _ _ (by decide)) this).trans ((congrFun (hg_660.2.1 134 (by decide) (by decide)) this).trans (by rw [eI_648]; exact pq_us _ _ _ _))) ex_646 rfl (kk := 1) rfl (by decide) h_632 (by decide) (by decide)) hG hP hD hS (lv_sub hl [1, 2] rfl)
            exact L_621 _ I_32 ri_33 _ _ _ (by omega) (ft_t (fun _ _ => rfl) hp_38) (Nat.lt_succ_self _) hG hP hD hS (lv_sub hl [1, 2] rfl)
          · have tc_686 : (x_28).toInt = 35 := congrArg Int32.toInt c_368
            have h_687 : rg x_28 35 35 := rg_and (rg_full _) (rg_of_eq c_368 (rg_k (35 : Int32) 35 rfl)) (by decide)
            have uh_687 := h_687.1
            have vh_687 := h_687.2
            refine lv_aload_n hx hb dX4_settle_63 rfl (lv_at hl 1 rfl) ?_
            refine lv_dup hx hb dX4_settle_64 rfl ?_
            refine pg_f (v := .int (I_32 135 this)) (C := RX4) (T := TX4) (N := 12) hx hb hts (tw_i inlX4) hown hK hP hL_this hK_this (by decide) rfl 7 (by decide) (hts _ (tw_c tw_759)) rfl dX4_settle_65 ?_
            refine lv_iconst (v := 1) hx hb dX4_settle_68 (by decide) ?_
            refine lv_isub hx hb dX4_settle_69 ?_
            refine lv_topi (fun x_688 ex_688 => ?_)
            refine pp_i (v := x_688) (ty := .int) (C := RX4) (T := TX4) (N := 12) hx hb hts (tw_i inlX4) tyX4 tyX4_ok nmX4 hown hK hP hD hS hL_this hK_this (by decide) rfl 7 135 (by decide) (hts _ (tw_c tw_759)) rfl (tyX4_ok 7 (by decide)) rfl rfl (Nat.le_of_ble_eq_true rfl) (ps_135 _ _ _ _ _) dX4_settle_70 (fun I_689 H locs eI_689 hP hD hS => ?_)
            have hG := GX.wI hG 135 rfl eI_689 (rg_w (rg_full _) (by decide)) (by decide)
            have tt_690 : (I_689 132 this).toInt = (I_32 132 this).toInt := by rw [eI_689, pq_uf _ _ _ (by decide)]
            have tt_691 : (I_689 134 this).toInt = (I_32 134 this).toInt := by rw [eI_689, pq_uf _ _ _ (by decide)]
            have tt_692 : (I_689 129 this).toInt = (I_32 129 this).toInt := by rw [eI_689, pq_uf _ _ _ (by decide)]
            refine lv_goto (tgt := 0) hx hb dX4_settle_73 (by decide) ?_
            have L_944 : ∀ (n_943 : Nat) (I_879 : Nat → Nat → Int32) (ri_880 : Nat → Nat → Int32) (H : Heap) (locs : List Loc) (ls : Array Slot), ((I_879 132 this).toInt + (I_879 134 this).toInt ≤ (I 132 this).toInt + (I 134 this).toInt) → (∀ q, tg q = 258 → ri_880 q = ri q) → ((I_879 134 this).toInt - 0).toNat < n_943 → GX [132, 134] tg σ I ri rj I_879 ri_880 rj rq → va_P D vwCl (pq_P t σ (I_879, J, ri_880, rj, rq)) H → va_D A (pq_P t σ (I_879, J, ri_880, rj, rq)) → va_S A s.heap H locs → lv_has ls 3 [(0, .ref this), (1, .int a0)] → W p l e ({ frames := 1, cells := 0, slots := 0, locals := 21 } : Room) s m (List.toArray ([.ref this, .int a0] : List Value)) below meth c H locs 0 0 Q (F0 m 0 ls []) := by
              intro n_943
              induction n_943 with
              | zero => intro I_879 ri_880 H locs ls hrel_948 hrel_949 hm_942 hG hP hD hS hl; exact absurd hm_942 (Nat.not_lt_zero _)
              | succ n_943 ih_945 =>
                intro I_879 ri_880 H locs ls hrel_948 hrel_949 hm_942 hG hP hD hS hl
                refine lv_aload_n hx hb dX4_settle_0 rfl (lv_at hl 0 rfl) ?_
                refine pg_f (v := .int (I_879 134 this)) (C := RX4) (T := TX4) (N := 12) hx hb hts (tw_i inlX4) hown hK hP hL_this hK_this (by decide) rfl 6 (by decide) (hts _ (tw_c tw_758)) rfl dX4_settle_1 ?_
                have h_950 : rg (I_879 134 this) 0 40 := GX.rI hG 134 rfl
                have uh_950 := h_950.1
                have vh_950 := h_950.2
                refine lv_if_le (tgt := 76) hx hb dX4_settle_4 (by decide) (fun c_951 => ?_) (fun c_951 => ?_)
                · have tc_952 : (I_879 134 this).toInt ≤ 0 := Int32.le_iff_toInt_le.mp c_951
                  have h_953 : rg (I_879 134 this) 0 0 := rg_le1 c_951 h_950 (rg_k (0 : Int32) 0 rfl) (by decide)
                  have uh_953 := h_953.1
                  have vh_953 := h_953.2
                  subst hQ
                  exact W.vret hx hb hr (fun t1 ht hW => ⟨⟨(σ, I_879, J, ri_880, rj, rq), rfl, ⟨I_879, ri_880, rfl, hG, (by omega), hrel_949⟩, by rw [ht]; exact hP, va_K.moved hW.alike hK, hD⟩, hS.F ht⟩) hS.2.2 dX4_settle_76
                · have tc_954 : 0 < (I_879 134 this).toInt := Int32.lt_iff_toInt_lt.mp (nle c_951)
                  have h_955 : rg (I_879 134 this) 1 40 := rg_lt2 (nle c_951) (rg_k (0 : Int32) 0 rfl) h_950 (by decide)
                  have uh_955 := h_955.1
                  have vh_955 := h_955.2
                  refine lv_aload_n hx hb dX4_settle_7 rfl (lv_at hl 0 rfl) ?_
                  refine pg_f (v := .ref w_7) (C := RX4) (T := TX4) (N := 12) hx hb hts (tw_i inlX4) hown hK hP hL_this hK_this (by decide) rfl 5 (by decide) (hts _ (tw_c tw_161)) (pq_hv rfl hR_w_7) dX4_settle_8 ?_
                  refine lv_aload_n hx hb dX4_settle_11 rfl (lv_at hl 0 rfl) ?_
                  refine pg_f (v := .int (I_879 134 this)) (C := RX4) (T := TX4) (N := 12) hx hb hts (tw_i inlX4) hown hK hP hL_this hK_this (by decide) rfl 6 (by decide) (hts _ (tw_c tw_758)) rfl dX4_settle_12 ?_
                  refine lv_iconst (v := 1) hx hb dX4_settle_15 (by decide) ?_
                  refine lv_isub hx hb dX4_settle_16 ?_
                  refine lv_topi (fun x_956 ex_956 => ?_)
                  have h_957 : rg x_956 0 39 := rg_of_eq ex_956 (rg_sub h_955 (rg_k (1 : Int32) 1 rfl) (by decide))
                  have uh_957 := h_957.1
                  have vh_957 := h_957.2
                  have tx_956 : (x_956).toInt = (I_879 134 this).toInt - 1 := by rw [ex_956]; exact i_sub_rg (a2 := (I_879 134 this).toInt) (b2 := 1) rfl rfl h_955 (rg_k (1 : Int32) 1 rfl) (by decide)
                  refine pl_i hx hb hK hP hL_w_7 hK_w_7 hN_w_7 (rg_in h_957 (by decide)) dX4_settle_17 ?_
                  refine lv_topi (fun x_958 ex_958 => ?_)
                  refine pk_i (va_runS (As := [.int x_958]) (rest := []) ⟨hx, hb, hml, hown, hts⟩ (s_X4_rank l D t σ I_879 J ri_880 rj rq H.size tg hSH hG.1 x_958) (va_cwS 1 hts (tw_S tw_790 tw_791 tw_25 tw_792) rfl rfl rfl cd_yX4_rank_1 ⟨Nat.le_of_ble_eq_true rfl, Nat.le_of_ble_eq_true rfl⟩) ⟨pq_blind, pq_pre hK hN hP hD⟩ rfl rfl hl.1 rfl (lv_room (Nat.le_of_ble_eq_true rfl)) dX4_settle_18 ⟨Nat.le_of_ble_eq_true rfl, Nat.le_of_ble_eq_true rfl⟩) hD hS hA (fun x_959 σ1 μ1 H locs hw_960 hP hD hS => ?_)
                  obtain ⟨hu_961, hr_963⟩ := hw_960
                  obtain ⟨hu_961a, hu_961b⟩ := Prod.mk.inj hu_961
                  rw [hu_961a, hu_961b] at hP hD
                  refine lv_iload_n hx hb dX4_settle_21 rfl (lv_at hl 1 rfl) ?_
                  refine lv_icmp_lt (tgt := 76) hx hb dX4_settle_22 (by decide) (fun c_964 => ?_) (fun c_964 => ?_)
                  · have tc_965 : (x_959).toInt < (a0).toInt := Int32.lt_iff_toInt_lt.mp c_964
                    have h_966 : rg x_959 0 6 := rg_lt1 c_964 hr_963 h_20 (by decide)
                    have uh_966 := h_966.1
                    have vh_966 := h_966.2
                    have h_967 : rg a0 1 7 := rg_lt2 c_964 hr_963 h_20 (by decide)
                    have uh_967 := h_967.1
                    have vh_967 := h_967.2
                    subst hQ
                    exact W.vret hx hb hr (fun t1 ht hW => ⟨⟨(σ, I_879, J, ri_880, rj, rq), rfl, ⟨I_879, ri_880, rfl, hG, (by omega), hrel_949⟩, by rw [ht]; exact hP, va_K.moved hW.alike hK, hD⟩, hS.F ht⟩) hS.2.2 dX4_settle_76
                  · have tc_968 : (a0).toInt ≤ (x_959).toInt := Int32.le_iff_toInt_le.mp (nlt c_964)
                    refine lv_aload_n hx hb dX4_settle_25 rfl (lv_at hl 0 rfl) ?_
                    refine lv_dup hx hb dX4_settle_26 rfl ?_
                    refine pg_f (v := .int (I_879 134 this)) (C := RX4) (T := TX4) (N := 12) hx hb hts (tw_i inlX4) hown hK hP hL_this hK_this (by decide) rfl 6 (by decide) (hts _ (tw_c tw_758)) rfl dX4_settle_27 ?_
                    refine lv_iconst (v := 1) hx hb dX4_settle_30 (by decide) ?_
                    refine lv_isub hx hb dX4_settle_31 ?_
                    refine lv_topi (fun x_969 ex_969 => ?_)
                    have h_970 : rg x_969 0 39 := rg_of_eq ex_969 (rg_sub h_955 (rg_k (1 : Int32) 1 rfl) (by decide))
                    have uh_970 := h_970.1
                    have vh_970 := h_970.2
                    have tx_969 : (x_969).toInt = (I_879 134 this).toInt - 1 := by rw [ex_969]; exact i_sub_rg (a2 := (I_879 134 this).toInt) (b2 := 1) rfl rfl h_955 (rg_k (1 : Int32) 1 rfl) (by decide)
                    refine pp_i (v := x_969) (ty := .int) (C := RX4) (T := TX4) (N := 12) hx hb hts (tw_i inlX4) tyX4 tyX4_ok nmX4 hown hK hP hD hS hL_this hK_this (by decide) rfl 6 134 (by decide) (hts _ (tw_c tw_758)) rfl (tyX4_ok 6 (by decide)) rfl rfl (Nat.le_of_ble_eq_true rfl) (ps_134 _ _ _ _ _) dX4_settle_32 (fun I_971 H locs eI_971 hP hD hS => ?_)
                    have hG := GX.wI hG 134 rfl eI_971 (rg_w h_970 (by decide)) (by decide)
                    have tt_972 : (I_971 132 this).toInt = (I_879 132 this).toInt := by rw [eI_971, pq_uf _ _ _ (by decide)]
                    have tt_973 : (I_971 134 this).toInt = (x_969).toInt := by rw [eI_971, pq_us]
                    have tt_974 : (I_971 129 this).toInt = (I_879 129 this).toInt := by rw [eI_971, pq_uf _ _ _ (by decide)]
                    refine lv_aload_n hx hb dX4_settle_35 rfl (lv_at hl 0 rfl) ?_
                    refine pg_f (v := .ref w_7) (C := RX4) (T := TX4) (N := 12) hx hb hts (tw_i inlX4) hown hK hP hL_this hK_this (by decide) rfl 5 (by decide) (hts _ (tw_c tw_161)) (pq_hv rfl hR_w_7) dX4_settle_36 ?_
                    refine lv_aload_n hx hb dX4_settle_39 rfl (lv_at hl 0 rfl) ?_
                    refine pg_f (v := .int (I_971 134 this)) (C := RX4) (T := TX4) (N := 12) hx hb hts (tw_i inlX4) hown hK hP hL_this hK_this (by decide) rfl 6 (by decide) (hts _ (tw_c tw_758)) rfl dX4_settle_40 ?_
                    have h_975 : rg (I_971 134 this) 0 39 := (by rw [eI_971, pq_us]; exact h_970)
                    have uh_975 := h_975.1
                    have vh_975 := h_975.2
                    refine pl_i hx hb hK hP hL_w_7 hK_w_7 hN_w_7 (rg_in h_975 (by decide)) dX4_settle_43 ?_
                    refine lv_topi (fun x_976 ex_976 => ?_)
                    refine lv_istore_n (lv' := [(2, .int x_976), (0, .ref this), (1, .int a0)]) hx hb dX4_settle_44 rfl hl (by decide) rfl (fun ls hl => ?_)
                    refine lv_aload_n hx hb dX4_settle_45 rfl (lv_at hl 1 rfl) ?_
                    refine lv_iload_n hx hb dX4_settle_46 rfl (lv_at hl 0 rfl) ?_
                    refine lv_ineg hx hb dX4_settle_47 ?_
                    refine lv_topi (fun x_977 ex_977 => ?_)
                    refine pk_v (va_runV (As := [.int x_977]) (rest := []) ⟨hx, hb, hml, hown, hts⟩ (s_X4_emit l D t σ I_971 J ri_880 rj rq H.size tg hSH hG.1 this x_977 hL_this hK_this) (cwV 1 hts (tw_V tw_769 tw_770 tw_771 tw_25 tw_772) rfl rfl rfl cv_yX4_emit_1 ⟨Nat.le_of_ble_eq_true rfl, Nat.le_of_ble_eq_true rfl⟩) ⟨pq_blind, pq_recv hK hP hL_this hK_this (by decide) rfl, pq_pre hK hN hP hD⟩ rfl rfl hl.1 rfl (lv_room (Nat.le_of_ble_eq_true rfl)) dX4_settle_48 ⟨Nat.le_of_ble_eq_true rfl, Nat.le_of_ble_eq_true rfl⟩) hD hS hA (fun σ1 μ1 H locs hw_979 hP hD hS => ?_)
                    obtain ⟨I_980, ri_981, hu_982, hg_983, hp_985, hp_986⟩ := hw_979
                    obtain ⟨hu_982a, hu_982b⟩ := Prod.mk.inj hu_982
                    rw [hu_982a, hu_982b] at hP hD
                    have tt_987 := hp_985
                    have tt_988 := hp_986
                    have hG := GX.tr hG hg_983 (by decide)
                    have tt_989 : (I_980 134 this).toInt = (I_971 134 this).toInt := by rw [hg_983.2.1 134 (by decide) (by decide)]
                    have tt_990 : (I_980 129 this).toInt = (I_971 129 this).toInt := by rw [hg_983.2.1 129 (by decide) (by decide)]
                    refine lv_iload_n hx hb dX4_settle_51 rfl (lv_at hl 0 rfl) ?_
                    refine lv_bipush (v := 11) hx hb dX4_settle_52 (by decide) ?_
                    refine lv_icmp_eq (tgt := 63) hx hb dX4_settle_54 (by decide) (fun c_991 => ?_) (fun c_991 => ?_)
                    · have tc_992 : (x_976).toInt = 11 := congrArg Int32.toInt c_991
                      have h_993 : rg x_976 11 11 := rg_and (rg_full _) (rg_of_eq c_991 (rg_k (11 : Int32) 11 rfl)) (by decide)
                      have uh_993 := h_993.1
                      have vh_993 := h_993.2
                      refine lv_aload_n hx hb dX4_settle_63 rfl (lv_at hl 1 rfl) ?_
                      refine lv_dup hx hb dX4_settle_64 rfl ?_
                      refine pg_f (v := .int (I_980 135 this)) (C := RX4) (T := TX4) (N := 12) hx hb hts (tw_i inlX4) hown hK hP hL_this hK_this (by decide) rfl 7 (by decide) (hts _ (tw_c tw_759)) rfl dX4_settle_65 ?_
                      refine lv_iconst (v := 1) hx hb dX4_settle_68 (by decide) ?_
                      refine lv_isub hx hb dX4_settle_69 ?_
                      refine lv_topi (fun x_994 ex_994 => ?_)
                      refine pp_i (v := x_994) (ty := .int) (C := RX4) (T := TX4) (N := 12) hx hb hts (tw_i inlX4) tyX4 tyX4_ok nmX4 hown hK hP hD hS hL_this hK_this (by decide) rfl 7 135 (by decide) (hts _ (tw_c tw_759)) rfl (tyX4_ok 7 (by decide)) rfl rfl (Nat.le_of_ble_eq_true rfl) (ps_135 _ _ _ _ _) dX4_settle_70 (fun I_995 H locs eI_995 hP hD hS => ?_)
                      have hG := GX.wI hG 135 rfl eI_995 (rg_w (rg_full _) (by decide)) (by decide)
                      have tt_996 : (I_995 132 this).toInt = (I_980 132 this).toInt := by rw [eI_995, pq_uf _ _ _ (by decide)]
                      have tt_997 : (I_995 134 this).toInt = (I_980 134 this).toInt := by rw [eI_995, pq_uf _ _ _ (by decide)]
                      have tt_998 : (I_995 129 this).toInt = (I_980 129 this).toInt := by rw [eI_995, pq_uf _ _ _ (by decide)]
                      refine lv_goto (tgt := 0) hx hb dX4_settle_73 (by decide) ?_
                      exact ih_945 I_995 ri_981 _ _ _ (by omega) (ft_t hrel_949 hp_986) (ms_fd_isub hm_942 ((congrFun (show I_995 134 = I_980 134 from by rw [eI_995]; exact pq_uf _ _ _ (by decide)) this).trans ((congrFun (hg_983.2.1 134 (by decide) (by decide)) this).trans (by rw [eI_971]; exact pq_us _ _ _ _))) ex_969 rfl (kk := 1) rfl (by decide) h_955 (by decide) (by decide)) hG hP hD hS (lv_sub hl [1, 2] rfl)
                    · have tc_999 : (x_976).toInt ≠ 11 := fun q => c_991 (Int32.toInt_inj.mp q)
                      refine lv_iload_n hx hb dX4_settle_57 rfl (lv_at hl 0 rfl) ?_
                      refine lv_bipush (v := 35) hx hb dX4_settle_58 (by decide) ?_
                      refine lv_icmp_ne (tgt := 73) hx hb dX4_settle_60 (by decide) (fun c_1000 => ?_) (fun c_1000 => ?_)
                      · have tc_1001 : (x_976).toInt ≠ 35 := fun q => c_1000 (Int32.toInt_inj.mp q)
                        refine lv_goto (tgt := 0) hx hb dX4_settle_73 (by decide) ?_
                        exact ih_945 I_980 ri_981 _ _ _ (by omega) (ft_t hrel_949 hp_986) (ms_fd_isub hm_942 ((congrFun (hg_983.2.1 134 (by decide) (by decide)) this).trans (by rw [eI_971]; exact pq_us _ _ _ _)) ex_969 rfl (kk := 1) rfl (by decide) h_955 (by decide) (by decide)) hG hP hD hS (lv_sub hl [1, 2] rfl)
                      · have tc_1002 : (x_976).toInt = 35 := congrArg Int32.toInt c_1000
                        have h_1003 : rg x_976 35 35 := rg_and (rg_full _) (rg_of_eq c_1000 (rg_k (35 : Int32) 35 rfl)) (by decide)
                        have uh_1003 := h_1003.1
                        have vh_1003 := h_1003.2
                        refine lv_aload_n hx hb dX4_settle_63 rfl (lv_at hl 1 rfl) ?_
                        refine lv_dup hx hb dX4_settle_64 rfl ?_
                        refine pg_f (v := .int (I_980 135 this)) (C := RX4) (T := TX4) (N := 12) hx hb hts (tw_i inlX4) hown hK hP hL_this hK_this (by decide) rfl 7 (by decide) (hts _ (tw_c tw_759)) rfl dX4_settle_65 ?_
                        refine lv_iconst (v := 1) hx hb dX4_settle_68 (by decide) ?_
                        refine lv_isub hx hb dX4_settle_69 ?_
                        refine lv_topi (fun x_1004 ex_1004 => ?_)
                        refine pp_i (v := x_1004) (ty := .int) (C := RX4) (T := TX4) (N := 12) hx hb hts (tw_i inlX4) tyX4 tyX4_ok nmX4 hown hK hP hD hS hL_this hK_this (by decide) rfl 7 135 (by decide) (hts _ (tw_c tw_759)) rfl (tyX4_ok 7 (by decide)) rfl rfl (Nat.le_of_ble_eq_true rfl) (ps_135 _ _ _ _ _) dX4_settle_70 (fun I_1005 H locs eI_1005 hP hD hS => ?_)
                        have hG := GX.wI hG 135 rfl eI_1005 (rg_w (rg_full _) (by decide)) (by decide)
                        have tt_1006 : (I_1005 132 this).toInt = (I_980 132 this).toInt := by rw [eI_1005, pq_uf _ _ _ (by decide)]
                        have tt_1007 : (I_1005 134 this).toInt = (I_980 134 this).toInt := by rw [eI_1005, pq_uf _ _ _ (by decide)]
                        have tt_1008 : (I_1005 129 this).toInt = (I_980 129 this).toInt := by rw [eI_1005, pq_uf _ _ _ (by decide)]
                        refine lv_goto (tgt := 0) hx hb dX4_settle_73 (by decide) ?_
                        exact ih_945 I_1005 ri_981 _ _ _ (by omega) (ft_t hrel_949 hp_986) (ms_fd_isub hm_942 ((congrFun (show I_1005 134 = I_980 134 from by rw [eI_1005]; exact pq_uf _ _ _ (by decide)) this).trans ((congrFun (hg_983.2.1 134 (by decide) (by decide)) this).trans (by rw [eI_971]; exact pq_us _ _ _ _))) ex_969 rfl (kk := 1) rfl (by decide) h_955 (by decide) (by decide)) hG hP hD hS (lv_sub hl [1, 2] rfl)
            exact L_944 _ I_689 ri_33 _ _ _ (by omega) (ft_t (fun _ _ => rfl) hp_38) (Nat.lt_succ_self _) hG hP hD hS (lv_sub hl [1, 2] rfl)
  exact go _ _ _ hP hD hS hl

set_option maxHeartbeats 4000000 in
set_option maxRecDepth 100000 in
theorem s_X4_readBehindOne (l : Launch) (D : va_G) (t : pq_T) (σ : pq_S) (I : Nat → Nat → Int32) (J : Nat → Nat → Int64) (ri : Nat → Nat → Int32) (rj : Nat → Nat → Int64) (rq : Nat → Nat → Option Nat) (sz : Nat) (tg : Nat → Nat) (hSH : SH σ tg) (hG0 : GS tg σ I ri rq) (this : Nat) (hL_this : this ∈ σ.1) (hK_this : σ.2.1 this = 4) (this_scanner : Nat) (hR_this_scanner : σ.2.2.1 128 this = some this_scanner) (hL_this_scanner : this_scanner ∈ σ.1) (hK_this_scanner : σ.2.1 this_scanner = 6) : MetI l yX4_readBehindOne (wa yX4_readBehindOne cX4_readBehindOne 2 (some .boolean)) ({ frames := 2, cells := 0, slots := 0, locals := 43 }) [.ref this] D t σ (I, J, ri, rj, rq) sz 0 0 (fun (r : Int32) (u : pq_S × pq_M) => ∃ I' : Nat → Nat → Int32, ∃ ri' : Nat → Nat → Int32, u = (σ, I', J, ri', rj, rq) ∧ GX [132, 134, 129] tg σ I ri rj I' ri' rj rq ∧ ((I' 132 this).toInt + (I' 134 this).toInt ≤ (I 132 this).toInt + (I 134 this).toInt + 1 ∧ ((I 194 this_scanner).toInt = 33 → (I' 132 this).toInt + (I' 134 this).toInt ≤ (I 132 this).toInt + (I 134 this).toInt)) ∧ (∀ q, tg q = 258 → ri' q = ri q) ∧ ((r = 1 ∧ True) ∨ (r = 0 ∧ True))) := by
  refine Met.ofW (cc := cX4_readBehindOne) (maxL := 2) (ret := (some .boolean)) (by decide) rfl ?_
  intro p e s m args below meth c s₁ B hml hv
  obtain ⟨rfl, hsz, hP, hK, hD0, hN⟩ := hv
  have hx := B.exec
  have hb := B.bytes
  have hr := B.returns
  have hts := atoms_spec (ws := (wa yX4_readBehindOne cX4_readBehindOne 2 (some .boolean))) B.pre
  have hown : s.vm.findClass RX4 = some m.cls := findClass_of_methodNamed B.named
  have hlocks := B.notSynchronized
  subst hsz
  have hD : va_D (pq_B t σ (I, J, ri, rj, rq) s.heap.size) (pq_P t σ (I, J, ri, rj, rq)) := hD0.self
  generalize hAe : pq_B t σ (I, J, ri, rj, rq) s.heap.size = A at hD ⊢
  have hA : ∀ q : Nat, s.heap.size ≤ q → A q := fun q h => by rw [← hAe]; exact Or.inr h
  have hS : va_S A s.heap s.heap [] := va_S.rf
  have hG : GX [132, 134, 129] tg σ I ri rj I ri rj rq := ⟨hG0, fun _ _ _ => rfl, fun _ _ _ _ _ => rfl, fun _ _ _ _ _ => rfl⟩
  have hl := lv_entry ([.ref this]) (n := 2) (Nat.le_of_ble_eq_true rfl)
  rw [lg_entry_eq]
  generalize (lg_sl ([.ref this]) ++ List.replicate (2 - (lg_sl ([.ref this])).length) Slot.unset).toArray = ls at hl ⊢
  have hl : lv_has ls 2 [(0, .ref this)] := hl
  refine q_gen (fun Q hQ => ?_)
  have go : ∀ (H : Heap) (locs : List Loc) (ls : Array Slot), va_P D vwCl (pq_P t σ (I, J, ri, rj, rq)) H → va_D A (pq_P t σ (I, J, ri, rj, rq)) → va_S A s.heap H locs → lv_has ls 2 [(0, .ref this)] → W p l e ({ frames := 2, cells := 0, slots := 0, locals := 43 } : Room) s m (List.toArray ([.ref this] : List Value)) below meth c H locs 0 0 Q (F0 m 0 ls []) := by
    intro H locs ls hP hD hS hl
    refine lv_aload_n hx hb dX4_readBehindOne_0 rfl (lv_at hl 0 rfl) ?_
    refine pg_f (v := .ref this_scanner) (C := RX4) (T := TX4) (N := 12) hx hb hts (tw_i inlX4) hown hK hP hL_this hK_this (by decide) rfl 0 (by decide) (hts _ (tw_c tw_154)) (pq_hv rfl hR_this_scanner) dX4_readBehindOne_1 ?_
    refine pg_f (v := .int (I 194 this_scanner)) (C := RX6) (T := TX6) (N := 6) hx hb hts (tw_i inlX6) hown hK hP hL_this_scanner hK_this_scanner (by decide) rfl 2 (by decide) (hts _ (tw_c tw_657)) rfl dX4_readBehindOne_4 ?_
    refine lv_istore_n (lv' := [(1, .int (I 194 this_scanner)), (0, .ref this)]) hx hb dX4_readBehindOne_7 rfl hl (by decide) rfl (fun ls hl => ?_)
    refine lv_aload_n hx hb dX4_readBehindOne_8 rfl (lv_at hl 1 rfl) ?_
    refine lv_iconst (v := 0) hx hb dX4_readBehindOne_9 (by decide) ?_
    refine pp_i (v := 0) (ty := .boolean) (C := RX4) (T := TX4) (N := 12) hx hb hts (tw_i inlX4) tyX4 tyX4_ok nmX4 hown hK hP hD hS hL_this hK_this (by decide) rfl 9 137 (by decide) (hts _ (tw_c tw_761)) rfl (tyX4_ok 9 (by decide)) rfl (by decide) (Nat.le_of_ble_eq_true rfl) (ps_137 _ _ _ _ _) dX4_readBehindOne_10 (fun I_1 H locs eI_1 hP hD hS => ?_)
    have hG := GX.wI hG 137 rfl eI_1 (rg_w (rg_k (0 : Int32) 0 rfl) (by decide)) (by decide)
    have tt_2 : (I_1 132 this).toInt = (I 132 this).toInt := by rw [eI_1, pq_uf _ _ _ (by decide)]
    have tt_3 : (I_1 134 this).toInt = (I 134 this).toInt := by rw [eI_1, pq_uf _ _ _ (by decide)]
    have tt_4 : (I_1 129 this).toInt = (I 129 this).toInt := by rw [eI_1, pq_uf _ _ _ (by decide)]
    have tt_5 : (I_1 197 this_scanner).toInt = (I 197 this_scanner).toInt := by rw [eI_1, pq_uf _ _ _ (by decide)]
    have tt_6 : (I_1 194 this_scanner).toInt = (I 194 this_scanner).toInt := by rw [eI_1, pq_uf _ _ _ (by decide)]
    refine lv_iload_n hx hb dX4_readBehindOne_13 rfl (lv_at hl 0 rfl) ?_
    refine lv_bipush (v := 25) hx hb dX4_readBehindOne_14 (by decide) ?_
    refine lv_icmp_lt (tgt := 40) hx hb dX4_readBehindOne_16 (by decide) (fun c_7 => ?_) (fun c_7 => ?_)
    · have tc_8 : (I 194 this_scanner).toInt < 25 := Int32.lt_iff_toInt_lt.mp c_7
      have h_9 : rg (I 194 this_scanner) (-2147483648) 24 := rg_lt1 c_7 (rg_full _) (rg_k (25 : Int32) 25 rfl) (by decide)
      have uh_9 := h_9.1
      have vh_9 := h_9.2
      refine lv_aload_n hx hb dX4_readBehindOne_40 rfl (lv_at hl 1 rfl) ?_
      refine pg_f (v := .int (I_1 136 this)) (C := RX4) (T := TX4) (N := 12) hx hb hts (tw_i inlX4) hown hK hP hL_this hK_this (by decide) rfl 8 (by decide) (hts _ (tw_c tw_760)) rfl dX4_readBehindOne_41 ?_
      refine lv_if_le (tgt := 99) hx hb dX4_readBehindOne_44 (by decide) (fun c_10 => ?_) (fun c_10 => ?_)
      · have tc_11 : (I_1 136 this).toInt ≤ 0 := Int32.le_iff_toInt_le.mp c_10
        have h_12 : rg (I_1 136 this) (-2147483648) 0 := rg_le1 c_10 (rg_full _) (rg_k (0 : Int32) 0 rfl) (by decide)
        have uh_12 := h_12.1
        have vh_12 := h_12.2
        refine lv_aload_n hx hb dX4_readBehindOne_99 rfl (lv_at hl 1 rfl) ?_
        refine pg_f (v := .int (I_1 138 this)) (C := RX4) (T := TX4) (N := 12) hx hb hts (tw_i inlX4) hown hK hP hL_this hK_this (by decide) rfl 10 (by decide) (hts _ (tw_c tw_762)) rfl dX4_readBehindOne_100 ?_
        have h_13 : rg (I_1 138 this) 0 1 := GX.rI hG 138 rfl
        have uh_13 := h_13.1
        have vh_13 := h_13.2
        refine lv_if_ne (tgt := 138) hx hb dX4_readBehindOne_103 (by decide) (fun c_14 => ?_) (fun c_14 => ?_)
        · have tc_15 : (I_1 138 this).toInt ≠ 0 := fun q => c_14 (Int32.toInt_inj.mp q)
          have h_16 : rg (I_1 138 this) 1 1 := rg_ne c_14 h_13 0 rfl (by decide)
          have uh_16 := h_16.1
          have vh_16 := h_16.2
          refine lv_aload_n hx hb dX4_readBehindOne_138 rfl (lv_at hl 1 rfl) ?_
          refine pg_f (v := .int (I_1 138 this)) (C := RX4) (T := TX4) (N := 12) hx hb hts (tw_i inlX4) hown hK hP hL_this hK_this (by decide) rfl 10 (by decide) (hts _ (tw_c tw_762)) rfl dX4_readBehindOne_139 ?_
          refine lv_if_eq (tgt := 182) hx hb dX4_readBehindOne_142 (by decide) (fun c_17 => ?_) (fun c_17 => ?_)
          · have tc_18 : (I_1 138 this).toInt = 0 := congrArg Int32.toInt c_17
            exact (rg_empty (rg_and h_16 (rg_of_eq c_17 (rg_k (0 : Int32) 0 rfl)) (lo := 1) (hi := 0) (by decide)) (by decide)).elim
          · have tc_19 : (I_1 138 this).toInt ≠ 0 := fun q => c_17 (Int32.toInt_inj.mp q)
            refine lv_iload_n hx hb dX4_readBehindOne_145 rfl (lv_at hl 0 rfl) ?_
            refine lv_bipush (v := 9) hx hb dX4_readBehindOne_146 (by decide) ?_
            refine lv_icmp_eq (tgt := 157) hx hb dX4_readBehindOne_148 (by decide) (fun c_20 => ?_) (fun c_20 => ?_)
            · have tc_21 : (I 194 this_scanner).toInt = 9 := congrArg Int32.toInt c_20
              have h_22 : rg (I 194 this_scanner) 9 9 := rg_and h_9 (rg_of_eq c_20 (rg_k (9 : Int32) 9 rfl)) (by decide)
              have uh_22 := h_22.1
              have vh_22 := h_22.2
              refine lv_aload_n hx hb dX4_readBehindOne_157 rfl (lv_at hl 1 rfl) ?_
              refine lv_iconst (v := 0) hx hb dX4_readBehindOne_158 (by decide) ?_
              refine pp_i (v := 0) (ty := .boolean) (C := RX4) (T := TX4) (N := 12) hx hb hts (tw_i inlX4) tyX4 tyX4_ok nmX4 hown hK hP hD hS hL_this hK_this (by decide) rfl 10 138 (by decide) (hts _ (tw_c tw_762)) rfl (tyX4_ok 10 (by decide)) rfl (by decide) (Nat.le_of_ble_eq_true rfl) (ps_138 _ _ _ _ _) dX4_readBehindOne_159 (fun I_23 H locs eI_23 hP hD hS => ?_)
              have hG := GX.wI hG 138 rfl eI_23 (rg_w (rg_k (0 : Int32) 0 rfl) (by decide)) (by decide)
              have tt_24 : (I_23 132 this).toInt = (I_1 132 this).toInt := by rw [eI_23, pq_uf _ _ _ (by decide)]
              have tt_25 : (I_23 134 this).toInt = (I_1 134 this).toInt := by rw [eI_23, pq_uf _ _ _ (by decide)]
              have tt_26 : (I_23 129 this).toInt = (I_1 129 this).toInt := by rw [eI_23, pq_uf _ _ _ (by decide)]
              have tt_27 : (I_23 197 this_scanner).toInt = (I_1 197 this_scanner).toInt := by rw [eI_23, pq_uf _ _ _ (by decide)]
              have tt_28 : (I_23 194 this_scanner).toInt = (I_1 194 this_scanner).toInt := by rw [eI_23, pq_uf _ _ _ (by decide)]
              refine lv_aload_n hx hb dX4_readBehindOne_162 rfl (lv_at hl 1 rfl) ?_
              refine lv_iconst (v := 1) hx hb dX4_readBehindOne_163 (by decide) ?_
              refine pp_i (v := 1) (ty := .boolean) (C := RX4) (T := TX4) (N := 12) hx hb hts (tw_i inlX4) tyX4 tyX4_ok nmX4 hown hK hP hD hS hL_this hK_this (by decide) rfl 9 137 (by decide) (hts _ (tw_c tw_761)) rfl (tyX4_ok 9 (by decide)) rfl (by decide) (Nat.le_of_ble_eq_true rfl) (ps_137 _ _ _ _ _) dX4_readBehindOne_164 (fun I_29 H locs eI_29 hP hD hS => ?_)
              have hG := GX.wI hG 137 rfl eI_29 (rg_w (rg_k (1 : Int32) 1 rfl) (by decide)) (by decide)
              have tt_30 : (I_29 132 this).toInt = (I_23 132 this).toInt := by rw [eI_29, pq_uf _ _ _ (by decide)]
              have tt_31 : (I_29 134 this).toInt = (I_23 134 this).toInt := by rw [eI_29, pq_uf _ _ _ (by decide)]
              have tt_32 : (I_29 129 this).toInt = (I_23 129 this).toInt := by rw [eI_29, pq_uf _ _ _ (by decide)]
              have tt_33 : (I_29 197 this_scanner).toInt = (I_23 197 this_scanner).toInt := by rw [eI_29, pq_uf _ _ _ (by decide)]
              have tt_34 : (I_29 194 this_scanner).toInt = (I_23 194 this_scanner).toInt := by rw [eI_29, pq_uf _ _ _ (by decide)]
              refine lv_aload_n hx hb dX4_readBehindOne_167 rfl (lv_at hl 1 rfl) ?_
              refine lv_iload_n hx hb dX4_readBehindOne_168 rfl (lv_at hl 0 rfl) ?_
              refine pk_i (va_runS (As := [.int (I 194 this_scanner)]) (rest := [.ref this]) ⟨hx, hb, hml, hown, hts⟩ (s_X4_rank l D t σ I_29 J ri rj rq H.size tg hSH hG.1 (I 194 this_scanner)) (va_cwS 1 hts (tw_S tw_790 tw_791 tw_25 tw_792) rfl rfl rfl cd_yX4_rank_1 ⟨Nat.le_of_ble_eq_true rfl, Nat.le_of_ble_eq_true rfl⟩) ⟨pq_blind, pq_pre hK hN hP hD⟩ rfl rfl hl.1 rfl (lv_room (Nat.le_of_ble_eq_true rfl)) dX4_readBehindOne_169 ⟨Nat.le_of_ble_eq_true rfl, Nat.le_of_ble_eq_true rfl⟩) hD hS hA (fun x_35 σ1 μ1 H locs hw_36 hP hD hS => ?_)
              obtain ⟨hu_37, hr_39⟩ := hw_36
              obtain ⟨hu_37a, hu_37b⟩ := Prod.mk.inj hu_37
              rw [hu_37a, hu_37b] at hP hD
              refine pk_v (va_runV (As := [.int x_35]) (rest := []) ⟨hx, hb, hml, hown, hts⟩ (s_X4_settle l D t σ I_29 J ri rj rq H.size tg hSH hG.1 this x_35 hL_this hK_this) (cwV 1 hts (tw_V tw_793 tw_794 tw_795 tw_25 tw_796) rfl rfl rfl cv_yX4_settle_1 ⟨Nat.le_of_ble_eq_true rfl, Nat.le_of_ble_eq_true rfl⟩) ⟨pq_blind, pq_recv hK hP hL_this hK_this (by decide) rfl, pq_pre hK hN hP hD⟩ rfl rfl hl.1 rfl (lv_room (Nat.le_of_ble_eq_true rfl)) dX4_readBehindOne_172 ⟨Nat.le_of_ble_eq_true rfl, Nat.le_of_ble_eq_true rfl⟩) hD hS hA (fun σ1 μ1 H locs hw_41 hP hD hS => ?_)
              obtain ⟨I_42, ri_43, hu_44, hg_45, hp_47, hp_48⟩ := hw_41
              obtain ⟨hu_44a, hu_44b⟩ := Prod.mk.inj hu_44
              rw [hu_44a, hu_44b] at hP hD
              have tt_49 := hp_47
              have tt_50 := hp_48
              have hG := GX.tr hG hg_45 (by decide)
              have tt_51 : (I_42 129 this).toInt = (I_29 129 this).toInt := by rw [hg_45.2.1 129 (by decide) (by decide)]
              have tt_52 : (I_42 197 this_scanner).toInt = (I_29 197 this_scanner).toInt := by rw [hg_45.2.1 197 (by decide) (by decide)]
              have tt_53 : (I_42 194 this_scanner).toInt = (I_29 194 this_scanner).toInt := by rw [hg_45.2.1 194 (by decide) (by decide)]
              refine lv_aload_n hx hb dX4_readBehindOne_175 rfl (lv_at hl 1 rfl) ?_
              refine lv_iload_n hx hb dX4_readBehindOne_176 rfl (lv_at hl 0 rfl) ?_
              refine pk_v (va_runV (As := [.int (I 194 this_scanner)]) (rest := []) ⟨hx, hb, hml, hown, hts⟩ (s_X4_await l D t σ I_42 J ri_43 rj rq H.size tg hSH hG.1 this (I 194 this_scanner) hL_this hK_this) (cwV 1 hts (tw_V tw_781 tw_782 tw_783 tw_25 tw_784) rfl rfl rfl cv_yX4_await_1 ⟨Nat.le_of_ble_eq_true rfl, Nat.le_of_ble_eq_true rfl⟩) ⟨pq_blind, pq_recv hK hP hL_this hK_this (by decide) rfl, pq_pre hK hN hP hD⟩ rfl rfl hl.1 rfl (lv_room (Nat.le_of_ble_eq_true rfl)) dX4_readBehindOne_177 ⟨Nat.le_of_ble_eq_true rfl, Nat.le_of_ble_eq_true rfl⟩) hD hS hA (fun σ1 μ1 H locs hw_55 hP hD hS => ?_)
              obtain ⟨I_56, ri_57, hu_58, hg_59, hp_61, hp_62⟩ := hw_55
              obtain ⟨hu_58a, hu_58b⟩ := Prod.mk.inj hu_58
              rw [hu_58a, hu_58b] at hP hD
              have tt_63 := hp_61
              have tt_64 := hp_62
              have hG := GX.tr hG hg_59 (by decide)
              have tt_65 : (I_56 132 this).toInt = (I_42 132 this).toInt := by rw [hg_59.2.1 132 (by decide) (by decide)]
              have tt_66 : (I_56 129 this).toInt = (I_42 129 this).toInt := by rw [hg_59.2.1 129 (by decide) (by decide)]
              have tt_67 : (I_56 197 this_scanner).toInt = (I_42 197 this_scanner).toInt := by rw [hg_59.2.1 197 (by decide) (by decide)]
              have tt_68 : (I_56 194 this_scanner).toInt = (I_42 194 this_scanner).toInt := by rw [hg_59.2.1 194 (by decide) (by decide)]
              refine lv_iconst (v := 1) hx hb dX4_readBehindOne_180 (by decide) ?_
              subst hQ
              exact W.zret (v := 1) hx hb hr (by decide) (fun t1 ht hW => ⟨⟨1, (σ, I_56, J, ri_57, rj, rq), rfl, ⟨I_56, ri_57, rfl, hG, (by omega), (ft_t (ft_t (fun _ _ => rfl) hp_48) hp_62), (Or.inl ⟨rfl, trivial⟩)⟩, by rw [ht]; exact hP, va_K.moved hW.alike hK, hD⟩, hS.F ht⟩) hS.2.2 dX4_readBehindOne_181
            · have tc_69 : (I 194 this_scanner).toInt ≠ 9 := fun q => c_20 (Int32.toInt_inj.mp q)
              refine lv_iload_n hx hb dX4_readBehindOne_151 rfl (lv_at hl 0 rfl) ?_
              refine lv_bipush (v := 10) hx hb dX4_readBehindOne_152 (by decide) ?_
              refine lv_icmp_ne (tgt := 182) hx hb dX4_readBehindOne_154 (by decide) (fun c_70 => ?_) (fun c_70 => ?_)
              · have tc_71 : (I 194 this_scanner).toInt ≠ 10 := fun q => c_70 (Int32.toInt_inj.mp q)
                refine lv_aload_n hx hb dX4_readBehindOne_182 rfl (lv_at hl 1 rfl) ?_
                refine pg_f (v := .int (I_1 138 this)) (C := RX4) (T := TX4) (N := 12) hx hb hts (tw_i inlX4) hown hK hP hL_this hK_this (by decide) rfl 10 (by decide) (hts _ (tw_c tw_762)) rfl dX4_readBehindOne_183 ?_
                refine lv_if_eq (tgt := 195) hx hb dX4_readBehindOne_186 (by decide) (fun c_72 => ?_) (fun c_72 => ?_)
                · have tc_73 : (I_1 138 this).toInt = 0 := congrArg Int32.toInt c_72
                  exact (rg_empty (rg_and h_16 (rg_of_eq c_72 (rg_k (0 : Int32) 0 rfl)) (lo := 1) (hi := 0) (by decide)) (by decide)).elim
                · have tc_74 : (I_1 138 this).toInt ≠ 0 := fun q => c_72 (Int32.toInt_inj.mp q)
                  refine lv_iload_n hx hb dX4_readBehindOne_189 rfl (lv_at hl 0 rfl) ?_
                  refine lv_bipush (v := 32) hx hb dX4_readBehindOne_190 (by decide) ?_
                  refine lv_icmp_eq (tgt := 200) hx hb dX4_readBehindOne_192 (by decide) (fun c_75 => ?_) (fun c_75 => ?_)
                  · have tc_76 : (I 194 this_scanner).toInt = 32 := congrArg Int32.toInt c_75
                    exact (rg_empty (rg_and h_9 (rg_of_eq c_75 (rg_k (32 : Int32) 32 rfl)) (lo := 32) (hi := 24) (by decide)) (by decide)).elim
                  · have tc_77 : (I 194 this_scanner).toInt ≠ 32 := fun q => c_75 (Int32.toInt_inj.mp q)
                    refine lv_aload_n hx hb dX4_readBehindOne_195 rfl (lv_at hl 1 rfl) ?_
                    refine lv_iconst (v := 1) hx hb dX4_readBehindOne_196 (by decide) ?_
                    refine pk_v (va_runV (As := [.int 1]) (rest := []) ⟨hx, hb, hml, hown, hts⟩ (s_X4_refuse l D t σ I_1 J ri rj rq H.size tg hSH hG.1 this (1 : Int32) hL_this hK_this (rg_w (rg_k (1 : Int32) 1 rfl) (by decide))) (cwV 1 hts (tw_V tw_748 tw_749 tw_750 tw_25 tw_751) rfl rfl rfl cv_yX4_refuse_1 ⟨Nat.le_of_ble_eq_true rfl, Nat.le_of_ble_eq_true rfl⟩) ⟨pq_blind, pq_recv hK hP hL_this hK_this (by decide) rfl, pq_pre hK hN hP hD⟩ rfl rfl hl.1 rfl (lv_room (Nat.le_of_ble_eq_true rfl)) dX4_readBehindOne_197 ⟨Nat.le_of_ble_eq_true rfl, Nat.le_of_ble_eq_true rfl⟩) hD hS hA (fun σ1 μ1 H locs hw_79 hP hD hS => ?_)
                    obtain ⟨I_80, hu_81, hg_82, hp_84⟩ := hw_79
                    obtain ⟨hu_81a, hu_81b⟩ := Prod.mk.inj hu_81
                    rw [hu_81a, hu_81b] at hP hD
                    have tt_85 := hp_84
                    have hG := GX.tr hG hg_82 (by decide)
                    have tt_86 : (I_80 132 this).toInt = (I_1 132 this).toInt := by rw [hg_82.2.1 132 (by decide) (by decide)]
                    have tt_87 : (I_80 134 this).toInt = (I_1 134 this).toInt := by rw [hg_82.2.1 134 (by decide) (by decide)]
                    have tt_88 : (I_80 197 this_scanner).toInt = (I_1 197 this_scanner).toInt := by rw [hg_82.2.1 197 (by decide) (by decide)]
                    have tt_89 : (I_80 194 this_scanner).toInt = (I_1 194 this_scanner).toInt := by rw [hg_82.2.1 194 (by decide) (by decide)]
                    refine lv_aload_n hx hb dX4_readBehindOne_200 rfl (lv_at hl 1 rfl) ?_
                    refine lv_iconst (v := 1) hx hb dX4_readBehindOne_201 (by decide) ?_
                    refine pk_v (va_runV (As := [.int 1]) (rest := []) ⟨hx, hb, hml, hown, hts⟩ (s_X4_settle l D t σ I_80 J ri rj rq H.size tg hSH hG.1 this (1 : Int32) hL_this hK_this) (cwV 1 hts (tw_V tw_793 tw_794 tw_795 tw_25 tw_796) rfl rfl rfl cv_yX4_settle_1 ⟨Nat.le_of_ble_eq_true rfl, Nat.le_of_ble_eq_true rfl⟩) ⟨pq_blind, pq_recv hK hP hL_this hK_this (by decide) rfl, pq_pre hK hN hP hD⟩ rfl rfl hl.1 rfl (lv_room (Nat.le_of_ble_eq_true rfl)) dX4_readBehindOne_202 ⟨Nat.le_of_ble_eq_true rfl, Nat.le_of_ble_eq_true rfl⟩) hD hS hA (fun σ1 μ1 H locs hw_91 hP hD hS => ?_)
                    obtain ⟨I_92, ri_93, hu_94, hg_95, hp_97, hp_98⟩ := hw_91
                    obtain ⟨hu_94a, hu_94b⟩ := Prod.mk.inj hu_94
                    rw [hu_94a, hu_94b] at hP hD
                    have tt_99 := hp_97
                    have tt_100 := hp_98
                    have hG := GX.tr hG hg_95 (by decide)
                    have tt_101 : (I_92 129 this).toInt = (I_80 129 this).toInt := by rw [hg_95.2.1 129 (by decide) (by decide)]
                    have tt_102 : (I_92 197 this_scanner).toInt = (I_80 197 this_scanner).toInt := by rw [hg_95.2.1 197 (by decide) (by decide)]
                    have tt_103 : (I_92 194 this_scanner).toInt = (I_80 194 this_scanner).toInt := by rw [hg_95.2.1 194 (by decide) (by decide)]
                    refine lv_aload_n hx hb dX4_readBehindOne_205 rfl (lv_at hl 1 rfl) ?_
                    refine lv_iconst (v := 1) hx hb dX4_readBehindOne_206 (by decide) ?_
                    refine pp_i (v := 1) (ty := .boolean) (C := RX4) (T := TX4) (N := 12) hx hb hts (tw_i inlX4) tyX4 tyX4_ok nmX4 hown hK hP hD hS hL_this hK_this (by decide) rfl 11 139 (by decide) (hts _ (tw_c tw_763)) rfl (tyX4_ok 11 (by decide)) rfl (by decide) (Nat.le_of_ble_eq_true rfl) (ps_139 _ _ _ _ _) dX4_readBehindOne_207 (fun I_104 H locs eI_104 hP hD hS => ?_)
                    have hG := GX.wI hG 139 rfl eI_104 (rg_w (rg_k (1 : Int32) 1 rfl) (by decide)) (by decide)
                    have tt_105 : (I_104 132 this).toInt = (I_92 132 this).toInt := by rw [eI_104, pq_uf _ _ _ (by decide)]
                    have tt_106 : (I_104 134 this).toInt = (I_92 134 this).toInt := by rw [eI_104, pq_uf _ _ _ (by decide)]
                    have tt_107 : (I_104 129 this).toInt = (I_92 129 this).toInt := by rw [eI_104, pq_uf _ _ _ (by decide)]
                    have tt_108 : (I_104 197 this_scanner).toInt = (I_92 197 this_scanner).toInt := by rw [eI_104, pq_uf _ _ _ (by decide)]
                    have tt_109 : (I_104 194 this_scanner).toInt = (I_92 194 this_scanner).toInt := by rw [eI_104, pq_uf _ _ _ (by decide)]
                    refine lv_iconst (v := 0) hx hb dX4_readBehindOne_210 (by decide) ?_
                    subst hQ
                    exact W.zret (v := 0) hx hb hr (by decide) (fun t1 ht hW => ⟨⟨0, (σ, I_104, J, ri_93, rj, rq), rfl, ⟨I_104, ri_93, rfl, hG, (by omega), (ft_t (fun _ _ => rfl) hp_98), (Or.inr ⟨rfl, trivial⟩)⟩, by rw [ht]; exact hP, va_K.moved hW.alike hK, hD⟩, hS.F ht⟩) hS.2.2 dX4_readBehindOne_211
              · have tc_110 : (I 194 this_scanner).toInt = 10 := congrArg Int32.toInt c_70
                have h_111 : rg (I 194 this_scanner) 10 10 := rg_and h_9 (rg_of_eq c_70 (rg_k (10 : Int32) 10 rfl)) (by decide)
                have uh_111 := h_111.1
                have vh_111 := h_111.2
                refine lv_aload_n hx hb dX4_readBehindOne_157 rfl (lv_at hl 1 rfl) ?_
                refine lv_iconst (v := 0) hx hb dX4_readBehindOne_158 (by decide) ?_
                refine pp_i (v := 0) (ty := .boolean) (C := RX4) (T := TX4) (N := 12) hx hb hts (tw_i inlX4) tyX4 tyX4_ok nmX4 hown hK hP hD hS hL_this hK_this (by decide) rfl 10 138 (by decide) (hts _ (tw_c tw_762)) rfl (tyX4_ok 10 (by decide)) rfl (by decide) (Nat.le_of_ble_eq_true rfl) (ps_138 _ _ _ _ _) dX4_readBehindOne_159 (fun I_112 H locs eI_112 hP hD hS => ?_)
                have hG := GX.wI hG 138 rfl eI_112 (rg_w (rg_k (0 : Int32) 0 rfl) (by decide)) (by decide)
                have tt_113 : (I_112 132 this).toInt = (I_1 132 this).toInt := by rw [eI_112, pq_uf _ _ _ (by decide)]
                have tt_114 : (I_112 134 this).toInt = (I_1 134 this).toInt := by rw [eI_112, pq_uf _ _ _ (by decide)]
                have tt_115 : (I_112 129 this).toInt = (I_1 129 this).toInt := by rw [eI_112, pq_uf _ _ _ (by decide)]
                have tt_116 : (I_112 197 this_scanner).toInt = (I_1 197 this_scanner).toInt := by rw [eI_112, pq_uf _ _ _ (by decide)]
                have tt_117 : (I_112 194 this_scanner).toInt = (I_1 194 this_scanner).toInt := by rw [eI_112, pq_uf _ _ _ (by decide)]
                refine lv_aload_n hx hb dX4_readBehindOne_162 rfl (lv_at hl 1 rfl) ?_
                refine lv_iconst (v := 1) hx hb dX4_readBehindOne_163 (by decide) ?_
                refine pp_i (v := 1) (ty := .boolean) (C := RX4) (T := TX4) (N := 12) hx hb hts (tw_i inlX4) tyX4 tyX4_ok nmX4 hown hK hP hD hS hL_this hK_this (by decide) rfl 9 137 (by decide) (hts _ (tw_c tw_761)) rfl (tyX4_ok 9 (by decide)) rfl (by decide) (Nat.le_of_ble_eq_true rfl) (ps_137 _ _ _ _ _) dX4_readBehindOne_164 (fun I_118 H locs eI_118 hP hD hS => ?_)
                have hG := GX.wI hG 137 rfl eI_118 (rg_w (rg_k (1 : Int32) 1 rfl) (by decide)) (by decide)
                have tt_119 : (I_118 132 this).toInt = (I_112 132 this).toInt := by rw [eI_118, pq_uf _ _ _ (by decide)]
                have tt_120 : (I_118 134 this).toInt = (I_112 134 this).toInt := by rw [eI_118, pq_uf _ _ _ (by decide)]
                have tt_121 : (I_118 129 this).toInt = (I_112 129 this).toInt := by rw [eI_118, pq_uf _ _ _ (by decide)]
                have tt_122 : (I_118 197 this_scanner).toInt = (I_112 197 this_scanner).toInt := by rw [eI_118, pq_uf _ _ _ (by decide)]
                have tt_123 : (I_118 194 this_scanner).toInt = (I_112 194 this_scanner).toInt := by rw [eI_118, pq_uf _ _ _ (by decide)]
                refine lv_aload_n hx hb dX4_readBehindOne_167 rfl (lv_at hl 1 rfl) ?_
                refine lv_iload_n hx hb dX4_readBehindOne_168 rfl (lv_at hl 0 rfl) ?_
                refine pk_i (va_runS (As := [.int (I 194 this_scanner)]) (rest := [.ref this]) ⟨hx, hb, hml, hown, hts⟩ (s_X4_rank l D t σ I_118 J ri rj rq H.size tg hSH hG.1 (I 194 this_scanner)) (va_cwS 1 hts (tw_S tw_790 tw_791 tw_25 tw_792) rfl rfl rfl cd_yX4_rank_1 ⟨Nat.le_of_ble_eq_true rfl, Nat.le_of_ble_eq_true rfl⟩) ⟨pq_blind, pq_pre hK hN hP hD⟩ rfl rfl hl.1 rfl (lv_room (Nat.le_of_ble_eq_true rfl)) dX4_readBehindOne_169 ⟨Nat.le_of_ble_eq_true rfl, Nat.le_of_ble_eq_true rfl⟩) hD hS hA (fun x_124 σ1 μ1 H locs hw_125 hP hD hS => ?_)
                obtain ⟨hu_126, hr_128⟩ := hw_125
                obtain ⟨hu_126a, hu_126b⟩ := Prod.mk.inj hu_126
                rw [hu_126a, hu_126b] at hP hD
                refine pk_v (va_runV (As := [.int x_124]) (rest := []) ⟨hx, hb, hml, hown, hts⟩ (s_X4_settle l D t σ I_118 J ri rj rq H.size tg hSH hG.1 this x_124 hL_this hK_this) (cwV 1 hts (tw_V tw_793 tw_794 tw_795 tw_25 tw_796) rfl rfl rfl cv_yX4_settle_1 ⟨Nat.le_of_ble_eq_true rfl, Nat.le_of_ble_eq_true rfl⟩) ⟨pq_blind, pq_recv hK hP hL_this hK_this (by decide) rfl, pq_pre hK hN hP hD⟩ rfl rfl hl.1 rfl (lv_room (Nat.le_of_ble_eq_true rfl)) dX4_readBehindOne_172 ⟨Nat.le_of_ble_eq_true rfl, Nat.le_of_ble_eq_true rfl⟩) hD hS hA (fun σ1 μ1 H locs hw_130 hP hD hS => ?_)
                obtain ⟨I_131, ri_132, hu_133, hg_134, hp_136, hp_137⟩ := hw_130
                obtain ⟨hu_133a, hu_133b⟩ := Prod.mk.inj hu_133
                rw [hu_133a, hu_133b] at hP hD
                have tt_138 := hp_136
                have tt_139 := hp_137
                have hG := GX.tr hG hg_134 (by decide)
                have tt_140 : (I_131 129 this).toInt = (I_118 129 this).toInt := by rw [hg_134.2.1 129 (by decide) (by decide)]
                have tt_141 : (I_131 197 this_scanner).toInt = (I_118 197 this_scanner).toInt := by rw [hg_134.2.1 197 (by decide) (by decide)]
                have tt_142 : (I_131 194 this_scanner).toInt = (I_118 194 this_scanner).toInt := by rw [hg_134.2.1 194 (by decide) (by decide)]
                refine lv_aload_n hx hb dX4_readBehindOne_175 rfl (lv_at hl 1 rfl) ?_
                refine lv_iload_n hx hb dX4_readBehindOne_176 rfl (lv_at hl 0 rfl) ?_
                refine pk_v (va_runV (As := [.int (I 194 this_scanner)]) (rest := []) ⟨hx, hb, hml, hown, hts⟩ (s_X4_await l D t σ I_131 J ri_132 rj rq H.size tg hSH hG.1 this (I 194 this_scanner) hL_this hK_this) (cwV 1 hts (tw_V tw_781 tw_782 tw_783 tw_25 tw_784) rfl rfl rfl cv_yX4_await_1 ⟨Nat.le_of_ble_eq_true rfl, Nat.le_of_ble_eq_true rfl⟩) ⟨pq_blind, pq_recv hK hP hL_this hK_this (by decide) rfl, pq_pre hK hN hP hD⟩ rfl rfl hl.1 rfl (lv_room (Nat.le_of_ble_eq_true rfl)) dX4_readBehindOne_177 ⟨Nat.le_of_ble_eq_true rfl, Nat.le_of_ble_eq_true rfl⟩) hD hS hA (fun σ1 μ1 H locs hw_144 hP hD hS => ?_)
                obtain ⟨I_145, ri_146, hu_147, hg_148, hp_150, hp_151⟩ := hw_144
                obtain ⟨hu_147a, hu_147b⟩ := Prod.mk.inj hu_147
                rw [hu_147a, hu_147b] at hP hD
                have tt_152 := hp_150
                have tt_153 := hp_151
                have hG := GX.tr hG hg_148 (by decide)
                have tt_154 : (I_145 132 this).toInt = (I_131 132 this).toInt := by rw [hg_148.2.1 132 (by decide) (by decide)]
                have tt_155 : (I_145 129 this).toInt = (I_131 129 this).toInt := by rw [hg_148.2.1 129 (by decide) (by decide)]
                have tt_156 : (I_145 197 this_scanner).toInt = (I_131 197 this_scanner).toInt := by rw [hg_148.2.1 197 (by decide) (by decide)]
                have tt_157 : (I_145 194 this_scanner).toInt = (I_131 194 this_scanner).toInt := by rw [hg_148.2.1 194 (by decide) (by decide)]
                refine lv_iconst (v := 1) hx hb dX4_readBehindOne_180 (by decide) ?_
                subst hQ
                exact W.zret (v := 1) hx hb hr (by decide) (fun t1 ht hW => ⟨⟨1, (σ, I_145, J, ri_146, rj, rq), rfl, ⟨I_145, ri_146, rfl, hG, (by omega), (ft_t (ft_t (fun _ _ => rfl) hp_137) hp_151), (Or.inl ⟨rfl, trivial⟩)⟩, by rw [ht]; exact hP, va_K.moved hW.alike hK, hD⟩, hS.F ht⟩) hS.2.2 dX4_readBehindOne_181
        · have tc_158 : (I_1 138 this).toInt = 0 := congrArg Int32.toInt c_14
          have h_159 : rg (I_1 138 this) 0 0 := rg_and h_13 (rg_of_eq c_14 (rg_k (0 : Int32) 0 rfl)) (by decide)
          have uh_159 := h_159.1
          have vh_159 := h_159.2
          refine lv_iload_n hx hb dX4_readBehindOne_106 rfl (lv_at hl 0 rfl) ?_
          refine lv_bipush (v := 19) hx hb dX4_readBehindOne_107 (by decide) ?_
          refine lv_icmp_lt (tgt := 138) hx hb dX4_readBehindOne_109 (by decide) (fun c_160 => ?_) (fun c_160 => ?_)
          · have tc_161 : (I 194 this_scanner).toInt < 19 := Int32.lt_iff_toInt_lt.mp c_160
            have h_162 : rg (I 194 this_scanner) (-2147483648) 18 := rg_lt1 c_160 h_9 (rg_k (19 : Int32) 19 rfl) (by decide)
            have uh_162 := h_162.1
            have vh_162 := h_162.2
            refine lv_aload_n hx hb dX4_readBehindOne_138 rfl (lv_at hl 1 rfl) ?_
            refine pg_f (v := .int (I_1 138 this)) (C := RX4) (T := TX4) (N := 12) hx hb hts (tw_i inlX4) hown hK hP hL_this hK_this (by decide) rfl 10 (by decide) (hts _ (tw_c tw_762)) rfl dX4_readBehindOne_139 ?_
            refine lv_if_eq (tgt := 182) hx hb dX4_readBehindOne_142 (by decide) (fun c_163 => ?_) (fun c_163 => ?_)
            · have tc_164 : (I_1 138 this).toInt = 0 := congrArg Int32.toInt c_163
              refine lv_aload_n hx hb dX4_readBehindOne_182 rfl (lv_at hl 1 rfl) ?_
              refine pg_f (v := .int (I_1 138 this)) (C := RX4) (T := TX4) (N := 12) hx hb hts (tw_i inlX4) hown hK hP hL_this hK_this (by decide) rfl 10 (by decide) (hts _ (tw_c tw_762)) rfl dX4_readBehindOne_183 ?_
              refine lv_if_eq (tgt := 195) hx hb dX4_readBehindOne_186 (by decide) (fun c_165 => ?_) (fun c_165 => ?_)
              · have tc_166 : (I_1 138 this).toInt = 0 := congrArg Int32.toInt c_165
                refine lv_aload_n hx hb dX4_readBehindOne_195 rfl (lv_at hl 1 rfl) ?_
                refine lv_iconst (v := 1) hx hb dX4_readBehindOne_196 (by decide) ?_
                refine pk_v (va_runV (As := [.int 1]) (rest := []) ⟨hx, hb, hml, hown, hts⟩ (s_X4_refuse l D t σ I_1 J ri rj rq H.size tg hSH hG.1 this (1 : Int32) hL_this hK_this (rg_w (rg_k (1 : Int32) 1 rfl) (by decide))) (cwV 1 hts (tw_V tw_748 tw_749 tw_750 tw_25 tw_751) rfl rfl rfl cv_yX4_refuse_1 ⟨Nat.le_of_ble_eq_true rfl, Nat.le_of_ble_eq_true rfl⟩) ⟨pq_blind, pq_recv hK hP hL_this hK_this (by decide) rfl, pq_pre hK hN hP hD⟩ rfl rfl hl.1 rfl (lv_room (Nat.le_of_ble_eq_true rfl)) dX4_readBehindOne_197 ⟨Nat.le_of_ble_eq_true rfl, Nat.le_of_ble_eq_true rfl⟩) hD hS hA (fun σ1 μ1 H locs hw_168 hP hD hS => ?_)
                obtain ⟨I_169, hu_170, hg_171, hp_173⟩ := hw_168
                obtain ⟨hu_170a, hu_170b⟩ := Prod.mk.inj hu_170
                rw [hu_170a, hu_170b] at hP hD
                have tt_174 := hp_173
                have hG := GX.tr hG hg_171 (by decide)
                have tt_175 : (I_169 132 this).toInt = (I_1 132 this).toInt := by rw [hg_171.2.1 132 (by decide) (by decide)]
                have tt_176 : (I_169 134 this).toInt = (I_1 134 this).toInt := by rw [hg_171.2.1 134 (by decide) (by decide)]
                have tt_177 : (I_169 197 this_scanner).toInt = (I_1 197 this_scanner).toInt := by rw [hg_171.2.1 197 (by decide) (by decide)]
                have tt_178 : (I_169 194 this_scanner).toInt = (I_1 194 this_scanner).toInt := by rw [hg_171.2.1 194 (by decide) (by decide)]
                refine lv_aload_n hx hb dX4_readBehindOne_200 rfl (lv_at hl 1 rfl) ?_
                refine lv_iconst (v := 1) hx hb dX4_readBehindOne_201 (by decide) ?_
                refine pk_v (va_runV (As := [.int 1]) (rest := []) ⟨hx, hb, hml, hown, hts⟩ (s_X4_settle l D t σ I_169 J ri rj rq H.size tg hSH hG.1 this (1 : Int32) hL_this hK_this) (cwV 1 hts (tw_V tw_793 tw_794 tw_795 tw_25 tw_796) rfl rfl rfl cv_yX4_settle_1 ⟨Nat.le_of_ble_eq_true rfl, Nat.le_of_ble_eq_true rfl⟩) ⟨pq_blind, pq_recv hK hP hL_this hK_this (by decide) rfl, pq_pre hK hN hP hD⟩ rfl rfl hl.1 rfl (lv_room (Nat.le_of_ble_eq_true rfl)) dX4_readBehindOne_202 ⟨Nat.le_of_ble_eq_true rfl, Nat.le_of_ble_eq_true rfl⟩) hD hS hA (fun σ1 μ1 H locs hw_180 hP hD hS => ?_)
                obtain ⟨I_181, ri_182, hu_183, hg_184, hp_186, hp_187⟩ := hw_180
                obtain ⟨hu_183a, hu_183b⟩ := Prod.mk.inj hu_183
                rw [hu_183a, hu_183b] at hP hD
                have tt_188 := hp_186
                have tt_189 := hp_187
                have hG := GX.tr hG hg_184 (by decide)
                have tt_190 : (I_181 129 this).toInt = (I_169 129 this).toInt := by rw [hg_184.2.1 129 (by decide) (by decide)]
                have tt_191 : (I_181 197 this_scanner).toInt = (I_169 197 this_scanner).toInt := by rw [hg_184.2.1 197 (by decide) (by decide)]
                have tt_192 : (I_181 194 this_scanner).toInt = (I_169 194 this_scanner).toInt := by rw [hg_184.2.1 194 (by decide) (by decide)]
                refine lv_aload_n hx hb dX4_readBehindOne_205 rfl (lv_at hl 1 rfl) ?_
                refine lv_iconst (v := 1) hx hb dX4_readBehindOne_206 (by decide) ?_
                refine pp_i (v := 1) (ty := .boolean) (C := RX4) (T := TX4) (N := 12) hx hb hts (tw_i inlX4) tyX4 tyX4_ok nmX4 hown hK hP hD hS hL_this hK_this (by decide) rfl 11 139 (by decide) (hts _ (tw_c tw_763)) rfl (tyX4_ok 11 (by decide)) rfl (by decide) (Nat.le_of_ble_eq_true rfl) (ps_139 _ _ _ _ _) dX4_readBehindOne_207 (fun I_193 H locs eI_193 hP hD hS => ?_)
                have hG := GX.wI hG 139 rfl eI_193 (rg_w (rg_k (1 : Int32) 1 rfl) (by decide)) (by decide)
                have tt_194 : (I_193 132 this).toInt = (I_181 132 this).toInt := by rw [eI_193, pq_uf _ _ _ (by decide)]
                have tt_195 : (I_193 134 this).toInt = (I_181 134 this).toInt := by rw [eI_193, pq_uf _ _ _ (by decide)]
                have tt_196 : (I_193 129 this).toInt = (I_181 129 this).toInt := by rw [eI_193, pq_uf _ _ _ (by decide)]
                have tt_197 : (I_193 197 this_scanner).toInt = (I_181 197 this_scanner).toInt := by rw [eI_193, pq_uf _ _ _ (by decide)]
                have tt_198 : (I_193 194 this_scanner).toInt = (I_181 194 this_scanner).toInt := by rw [eI_193, pq_uf _ _ _ (by decide)]
                refine lv_iconst (v := 0) hx hb dX4_readBehindOne_210 (by decide) ?_
                subst hQ
                exact W.zret (v := 0) hx hb hr (by decide) (fun t1 ht hW => ⟨⟨0, (σ, I_193, J, ri_182, rj, rq), rfl, ⟨I_193, ri_182, rfl, hG, (by omega), (ft_t (fun _ _ => rfl) hp_187), (Or.inr ⟨rfl, trivial⟩)⟩, by rw [ht]; exact hP, va_K.moved hW.alike hK, hD⟩, hS.F ht⟩) hS.2.2 dX4_readBehindOne_211
              · have tc_199 : (I_1 138 this).toInt ≠ 0 := fun q => c_165 (Int32.toInt_inj.mp q)
                exact (rg_empty (rg_ne c_165 h_159 0 rfl (lo := 1) (hi := (-1)) (by decide)) (by decide)).elim
            · have tc_200 : (I_1 138 this).toInt ≠ 0 := fun q => c_163 (Int32.toInt_inj.mp q)
              exact (rg_empty (rg_ne c_163 h_159 0 rfl (lo := 1) (hi := (-1)) (by decide)) (by decide)).elim
          · have tc_201 : 19 ≤ (I 194 this_scanner).toInt := Int32.le_iff_toInt_le.mp (nlt c_160)
            have h_202 : rg (I 194 this_scanner) 19 24 := rg_le2 (nlt c_160) (rg_k (19 : Int32) 19 rfl) h_9 (by decide)
            have uh_202 := h_202.1
            have vh_202 := h_202.2
            refine lv_iload_n hx hb dX4_readBehindOne_112 rfl (lv_at hl 0 rfl) ?_
            refine lv_bipush (v := 24) hx hb dX4_readBehindOne_113 (by decide) ?_
            refine lv_icmp_gt (tgt := 138) hx hb dX4_readBehindOne_115 (by decide) (fun c_203 => ?_) (fun c_203 => ?_)
            · have tc_204 : 24 < (I 194 this_scanner).toInt := Int32.lt_iff_toInt_lt.mp c_203
              exact (rg_empty (rg_lt2 c_203 (rg_k (24 : Int32) 24 rfl) h_202 (lo := 25) (hi := 24) (by decide)) (by decide)).elim
            · have tc_205 : (I 194 this_scanner).toInt ≤ 24 := Int32.le_iff_toInt_le.mp (nlt c_203)
              refine lv_aload_n hx hb dX4_readBehindOne_118 rfl (lv_at hl 1 rfl) ?_
              refine lv_iconst (v := 1) hx hb dX4_readBehindOne_119 (by decide) ?_
              refine pp_i (v := 1) (ty := .boolean) (C := RX4) (T := TX4) (N := 12) hx hb hts (tw_i inlX4) tyX4 tyX4_ok nmX4 hown hK hP hD hS hL_this hK_this (by decide) rfl 10 138 (by decide) (hts _ (tw_c tw_762)) rfl (tyX4_ok 10 (by decide)) rfl (by decide) (Nat.le_of_ble_eq_true rfl) (ps_138 _ _ _ _ _) dX4_readBehindOne_120 (fun I_206 H locs eI_206 hP hD hS => ?_)
              have hG := GX.wI hG 138 rfl eI_206 (rg_w (rg_k (1 : Int32) 1 rfl) (by decide)) (by decide)
              have tt_207 : (I_206 132 this).toInt = (I_1 132 this).toInt := by rw [eI_206, pq_uf _ _ _ (by decide)]
              have tt_208 : (I_206 134 this).toInt = (I_1 134 this).toInt := by rw [eI_206, pq_uf _ _ _ (by decide)]
              have tt_209 : (I_206 129 this).toInt = (I_1 129 this).toInt := by rw [eI_206, pq_uf _ _ _ (by decide)]
              have tt_210 : (I_206 197 this_scanner).toInt = (I_1 197 this_scanner).toInt := by rw [eI_206, pq_uf _ _ _ (by decide)]
              have tt_211 : (I_206 194 this_scanner).toInt = (I_1 194 this_scanner).toInt := by rw [eI_206, pq_uf _ _ _ (by decide)]
              refine lv_aload_n hx hb dX4_readBehindOne_123 rfl (lv_at hl 1 rfl) ?_
              refine lv_iload_n hx hb dX4_readBehindOne_124 rfl (lv_at hl 0 rfl) ?_
              refine pk_i (va_runS (As := [.int (I 194 this_scanner)]) (rest := [.ref this]) ⟨hx, hb, hml, hown, hts⟩ (s_X4_rank l D t σ I_206 J ri rj rq H.size tg hSH hG.1 (I 194 this_scanner)) (va_cwS 1 hts (tw_S tw_790 tw_791 tw_25 tw_792) rfl rfl rfl cd_yX4_rank_1 ⟨Nat.le_of_ble_eq_true rfl, Nat.le_of_ble_eq_true rfl⟩) ⟨pq_blind, pq_pre hK hN hP hD⟩ rfl rfl hl.1 rfl (lv_room (Nat.le_of_ble_eq_true rfl)) dX4_readBehindOne_125 ⟨Nat.le_of_ble_eq_true rfl, Nat.le_of_ble_eq_true rfl⟩) hD hS hA (fun x_212 σ1 μ1 H locs hw_213 hP hD hS => ?_)
              obtain ⟨hu_214, hr_216⟩ := hw_213
              obtain ⟨hu_214a, hu_214b⟩ := Prod.mk.inj hu_214
              rw [hu_214a, hu_214b] at hP hD
              refine pk_v (va_runV (As := [.int x_212]) (rest := []) ⟨hx, hb, hml, hown, hts⟩ (s_X4_settle l D t σ I_206 J ri rj rq H.size tg hSH hG.1 this x_212 hL_this hK_this) (cwV 1 hts (tw_V tw_793 tw_794 tw_795 tw_25 tw_796) rfl rfl rfl cv_yX4_settle_1 ⟨Nat.le_of_ble_eq_true rfl, Nat.le_of_ble_eq_true rfl⟩) ⟨pq_blind, pq_recv hK hP hL_this hK_this (by decide) rfl, pq_pre hK hN hP hD⟩ rfl rfl hl.1 rfl (lv_room (Nat.le_of_ble_eq_true rfl)) dX4_readBehindOne_128 ⟨Nat.le_of_ble_eq_true rfl, Nat.le_of_ble_eq_true rfl⟩) hD hS hA (fun σ1 μ1 H locs hw_218 hP hD hS => ?_)
              obtain ⟨I_219, ri_220, hu_221, hg_222, hp_224, hp_225⟩ := hw_218
              obtain ⟨hu_221a, hu_221b⟩ := Prod.mk.inj hu_221
              rw [hu_221a, hu_221b] at hP hD
              have tt_226 := hp_224
              have tt_227 := hp_225
              have hG := GX.tr hG hg_222 (by decide)
              have tt_228 : (I_219 129 this).toInt = (I_206 129 this).toInt := by rw [hg_222.2.1 129 (by decide) (by decide)]
              have tt_229 : (I_219 197 this_scanner).toInt = (I_206 197 this_scanner).toInt := by rw [hg_222.2.1 197 (by decide) (by decide)]
              have tt_230 : (I_219 194 this_scanner).toInt = (I_206 194 this_scanner).toInt := by rw [hg_222.2.1 194 (by decide) (by decide)]
              refine lv_aload_n hx hb dX4_readBehindOne_131 rfl (lv_at hl 1 rfl) ?_
              refine lv_iload_n hx hb dX4_readBehindOne_132 rfl (lv_at hl 0 rfl) ?_
              refine pk_v (va_runV (As := [.int (I 194 this_scanner)]) (rest := []) ⟨hx, hb, hml, hown, hts⟩ (s_X4_await l D t σ I_219 J ri_220 rj rq H.size tg hSH hG.1 this (I 194 this_scanner) hL_this hK_this) (cwV 1 hts (tw_V tw_781 tw_782 tw_783 tw_25 tw_784) rfl rfl rfl cv_yX4_await_1 ⟨Nat.le_of_ble_eq_true rfl, Nat.le_of_ble_eq_true rfl⟩) ⟨pq_blind, pq_recv hK hP hL_this hK_this (by decide) rfl, pq_pre hK hN hP hD⟩ rfl rfl hl.1 rfl (lv_room (Nat.le_of_ble_eq_true rfl)) dX4_readBehindOne_133 ⟨Nat.le_of_ble_eq_true rfl, Nat.le_of_ble_eq_true rfl⟩) hD hS hA (fun σ1 μ1 H locs hw_232 hP hD hS => ?_)
              obtain ⟨I_233, ri_234, hu_235, hg_236, hp_238, hp_239⟩ := hw_232
              obtain ⟨hu_235a, hu_235b⟩ := Prod.mk.inj hu_235
              rw [hu_235a, hu_235b] at hP hD
              have tt_240 := hp_238
              have tt_241 := hp_239
              have hG := GX.tr hG hg_236 (by decide)
              have tt_242 : (I_233 132 this).toInt = (I_219 132 this).toInt := by rw [hg_236.2.1 132 (by decide) (by decide)]
              have tt_243 : (I_233 129 this).toInt = (I_219 129 this).toInt := by rw [hg_236.2.1 129 (by decide) (by decide)]
              have tt_244 : (I_233 197 this_scanner).toInt = (I_219 197 this_scanner).toInt := by rw [hg_236.2.1 197 (by decide) (by decide)]
              have tt_245 : (I_233 194 this_scanner).toInt = (I_219 194 this_scanner).toInt := by rw [hg_236.2.1 194 (by decide) (by decide)]
              refine lv_iconst (v := 1) hx hb dX4_readBehindOne_136 (by decide) ?_
              subst hQ
              exact W.zret (v := 1) hx hb hr (by decide) (fun t1 ht hW => ⟨⟨1, (σ, I_233, J, ri_234, rj, rq), rfl, ⟨I_233, ri_234, rfl, hG, (by omega), (ft_t (ft_t (fun _ _ => rfl) hp_225) hp_239), (Or.inl ⟨rfl, trivial⟩)⟩, by rw [ht]; exact hP, va_K.moved hW.alike hK, hD⟩, hS.F ht⟩) hS.2.2 dX4_readBehindOne_137
      · have tc_246 : 0 < (I_1 136 this).toInt := Int32.lt_iff_toInt_lt.mp (nle c_10)
        have h_247 : rg (I_1 136 this) 1 2147483647 := rg_lt2 (nle c_10) (rg_k (0 : Int32) 0 rfl) (rg_full _) (by decide)
        have uh_247 := h_247.1
        have vh_247 := h_247.2
        refine lv_iload_n hx hb dX4_readBehindOne_47 rfl (lv_at hl 0 rfl) ?_
        refine lv_bipush (v := 30) hx hb dX4_readBehindOne_48 (by decide) ?_
        refine lv_icmp_eq (tgt := 58) hx hb dX4_readBehindOne_50 (by decide) (fun c_248 => ?_) (fun c_248 => ?_)
        · have tc_249 : (I 194 this_scanner).toInt = 30 := congrArg Int32.toInt c_248
          exact (rg_empty (rg_and h_9 (rg_of_eq c_248 (rg_k (30 : Int32) 30 rfl)) (lo := 30) (hi := 24) (by decide)) (by decide)).elim
        · have tc_250 : (I 194 this_scanner).toInt ≠ 30 := fun q => c_248 (Int32.toInt_inj.mp q)
          refine lv_aload_n hx hb dX4_readBehindOne_53 rfl (lv_at hl 1 rfl) ?_
          refine lv_iconst (v := 1) hx hb dX4_readBehindOne_54 (by decide) ?_
          refine pk_v (va_runV (As := [.int 1]) (rest := []) ⟨hx, hb, hml, hown, hts⟩ (s_X4_refuse l D t σ I_1 J ri rj rq H.size tg hSH hG.1 this (1 : Int32) hL_this hK_this (rg_w (rg_k (1 : Int32) 1 rfl) (by decide))) (cwV 1 hts (tw_V tw_748 tw_749 tw_750 tw_25 tw_751) rfl rfl rfl cv_yX4_refuse_1 ⟨Nat.le_of_ble_eq_true rfl, Nat.le_of_ble_eq_true rfl⟩) ⟨pq_blind, pq_recv hK hP hL_this hK_this (by decide) rfl, pq_pre hK hN hP hD⟩ rfl rfl hl.1 rfl (lv_room (Nat.le_of_ble_eq_true rfl)) dX4_readBehindOne_55 ⟨Nat.le_of_ble_eq_true rfl, Nat.le_of_ble_eq_true rfl⟩) hD hS hA (fun σ1 μ1 H locs hw_252 hP hD hS => ?_)
          obtain ⟨I_253, hu_254, hg_255, hp_257⟩ := hw_252
          obtain ⟨hu_254a, hu_254b⟩ := Prod.mk.inj hu_254
          rw [hu_254a, hu_254b] at hP hD
          have tt_258 := hp_257
          have hG := GX.tr hG hg_255 (by decide)
          have tt_259 : (I_253 132 this).toInt = (I_1 132 this).toInt := by rw [hg_255.2.1 132 (by decide) (by decide)]
          have tt_260 : (I_253 134 this).toInt = (I_1 134 this).toInt := by rw [hg_255.2.1 134 (by decide) (by decide)]
          have tt_261 : (I_253 197 this_scanner).toInt = (I_1 197 this_scanner).toInt := by rw [hg_255.2.1 197 (by decide) (by decide)]
          have tt_262 : (I_253 194 this_scanner).toInt = (I_1 194 this_scanner).toInt := by rw [hg_255.2.1 194 (by decide) (by decide)]
          refine lv_aload_n hx hb dX4_readBehindOne_58 rfl (lv_at hl 1 rfl) ?_
          refine lv_iconst (v := 1) hx hb dX4_readBehindOne_59 (by decide) ?_
          refine pk_v (va_runV (As := [.int 1]) (rest := []) ⟨hx, hb, hml, hown, hts⟩ (s_X4_settle l D t σ I_253 J ri rj rq H.size tg hSH hG.1 this (1 : Int32) hL_this hK_this) (cwV 1 hts (tw_V tw_793 tw_794 tw_795 tw_25 tw_796) rfl rfl rfl cv_yX4_settle_1 ⟨Nat.le_of_ble_eq_true rfl, Nat.le_of_ble_eq_true rfl⟩) ⟨pq_blind, pq_recv hK hP hL_this hK_this (by decide) rfl, pq_pre hK hN hP hD⟩ rfl rfl hl.1 rfl (lv_room (Nat.le_of_ble_eq_true rfl)) dX4_readBehindOne_60 ⟨Nat.le_of_ble_eq_true rfl, Nat.le_of_ble_eq_true rfl⟩) hD hS hA (fun σ1 μ1 H locs hw_264 hP hD hS => ?_)
          obtain ⟨I_265, ri_266, hu_267, hg_268, hp_270, hp_271⟩ := hw_264
          obtain ⟨hu_267a, hu_267b⟩ := Prod.mk.inj hu_267
          rw [hu_267a, hu_267b] at hP hD
          have tt_272 := hp_270
          have tt_273 := hp_271
          have hG := GX.tr hG hg_268 (by decide)
          have tt_274 : (I_265 129 this).toInt = (I_253 129 this).toInt := by rw [hg_268.2.1 129 (by decide) (by decide)]
          have tt_275 : (I_265 197 this_scanner).toInt = (I_253 197 this_scanner).toInt := by rw [hg_268.2.1 197 (by decide) (by decide)]
          have tt_276 : (I_265 194 this_scanner).toInt = (I_253 194 this_scanner).toInt := by rw [hg_268.2.1 194 (by decide) (by decide)]
          refine lv_aload_n hx hb dX4_readBehindOne_63 rfl (lv_at hl 1 rfl) ?_
          refine lv_dup hx hb dX4_readBehindOne_64 rfl ?_
          refine pg_f (v := .int (I_265 136 this)) (C := RX4) (T := TX4) (N := 12) hx hb hts (tw_i inlX4) hown hK hP hL_this hK_this (by decide) rfl 8 (by decide) (hts _ (tw_c tw_760)) rfl dX4_readBehindOne_65 ?_
          refine lv_iconst (v := 1) hx hb dX4_readBehindOne_68 (by decide) ?_
          refine lv_isub hx hb dX4_readBehindOne_69 ?_
          refine lv_topi (fun x_277 ex_277 => ?_)
          refine pp_i (v := x_277) (ty := .int) (C := RX4) (T := TX4) (N := 12) hx hb hts (tw_i inlX4) tyX4 tyX4_ok nmX4 hown hK hP hD hS hL_this hK_this (by decide) rfl 8 136 (by decide) (hts _ (tw_c tw_760)) rfl (tyX4_ok 8 (by decide)) rfl rfl (Nat.le_of_ble_eq_true rfl) (ps_136 _ _ _ _ _) dX4_readBehindOne_70 (fun I_278 H locs eI_278 hP hD hS => ?_)
          have hG := GX.wI hG 136 rfl eI_278 (rg_w (rg_full _) (by decide)) (by decide)
          have tt_279 : (I_278 132 this).toInt = (I_265 132 this).toInt := by rw [eI_278, pq_uf _ _ _ (by decide)]
          have tt_280 : (I_278 134 this).toInt = (I_265 134 this).toInt := by rw [eI_278, pq_uf _ _ _ (by decide)]
          have tt_281 : (I_278 129 this).toInt = (I_265 129 this).toInt := by rw [eI_278, pq_uf _ _ _ (by decide)]
          have tt_282 : (I_278 197 this_scanner).toInt = (I_265 197 this_scanner).toInt := by rw [eI_278, pq_uf _ _ _ (by decide)]
          have tt_283 : (I_278 194 this_scanner).toInt = (I_265 194 this_scanner).toInt := by rw [eI_278, pq_uf _ _ _ (by decide)]
          refine lv_aload_n hx hb dX4_readBehindOne_73 rfl (lv_at hl 1 rfl) ?_
          refine lv_dup hx hb dX4_readBehindOne_74 rfl ?_
          refine pg_f (v := .int (I_278 135 this)) (C := RX4) (T := TX4) (N := 12) hx hb hts (tw_i inlX4) hown hK hP hL_this hK_this (by decide) rfl 7 (by decide) (hts _ (tw_c tw_759)) rfl dX4_readBehindOne_75 ?_
          refine lv_iconst (v := 1) hx hb dX4_readBehindOne_78 (by decide) ?_
          refine lv_isub hx hb dX4_readBehindOne_79 ?_
          refine lv_topi (fun x_284 ex_284 => ?_)
          refine pp_i (v := x_284) (ty := .int) (C := RX4) (T := TX4) (N := 12) hx hb hts (tw_i inlX4) tyX4 tyX4_ok nmX4 hown hK hP hD hS hL_this hK_this (by decide) rfl 7 135 (by decide) (hts _ (tw_c tw_759)) rfl (tyX4_ok 7 (by decide)) rfl rfl (Nat.le_of_ble_eq_true rfl) (ps_135 _ _ _ _ _) dX4_readBehindOne_80 (fun I_285 H locs eI_285 hP hD hS => ?_)
          have hG := GX.wI hG 135 rfl eI_285 (rg_w (rg_full _) (by decide)) (by decide)
          have tt_286 : (I_285 132 this).toInt = (I_278 132 this).toInt := by rw [eI_285, pq_uf _ _ _ (by decide)]
          have tt_287 : (I_285 134 this).toInt = (I_278 134 this).toInt := by rw [eI_285, pq_uf _ _ _ (by decide)]
          have tt_288 : (I_285 129 this).toInt = (I_278 129 this).toInt := by rw [eI_285, pq_uf _ _ _ (by decide)]
          have tt_289 : (I_285 197 this_scanner).toInt = (I_278 197 this_scanner).toInt := by rw [eI_285, pq_uf _ _ _ (by decide)]
          have tt_290 : (I_285 194 this_scanner).toInt = (I_278 194 this_scanner).toInt := by rw [eI_285, pq_uf _ _ _ (by decide)]
          refine lv_aload_n hx hb dX4_readBehindOne_83 rfl (lv_at hl 1 rfl) ?_
          refine lv_iconst (v := 0) hx hb dX4_readBehindOne_84 (by decide) ?_
          refine lv_aload_n hx hb dX4_readBehindOne_85 rfl (lv_at hl 1 rfl) ?_
          refine pg_f (v := .int (I_285 134 this)) (C := RX4) (T := TX4) (N := 12) hx hb hts (tw_i inlX4) hown hK hP hL_this hK_this (by decide) rfl 6 (by decide) (hts _ (tw_c tw_758)) rfl dX4_readBehindOne_86 ?_
          have h_291 : rg (I_285 134 this) 0 40 := GX.rI hG 134 rfl
          have uh_291 := h_291.1
          have vh_291 := h_291.2
          refine lv_iconst (v := 1) hx hb dX4_readBehindOne_89 (by decide) ?_
          refine lv_isub hx hb dX4_readBehindOne_90 ?_
          refine lv_topi (fun x_292 ex_292 => ?_)
          have h_293 : rg x_292 (-1) 39 := rg_of_eq ex_292 (rg_sub h_291 (rg_k (1 : Int32) 1 rfl) (by decide))
          have uh_293 := h_293.1
          have vh_293 := h_293.2
          have tx_292 : (x_292).toInt = (I_285 134 this).toInt - 1 := by rw [ex_292]; exact i_sub_rg (a2 := (I_285 134 this).toInt) (b2 := 1) rfl rfl h_291 (rg_k (1 : Int32) 1 rfl) (by decide)
          refine va_mmax hx hb (hml.trans hl.1.symm) hown (hts _ (tw_c tw_789)) (hts _ (tw_c tw_275)) (hts _ (tw_c tw_276)) (hts _ (tw_c tw_277)) (Nat.le_of_ble_eq_true rfl) (Nat.le_of_ble_eq_true rfl) (Nat.zero_le _) (Nat.zero_le _) dX4_readBehindOne_91 ?_
          refine lv_topi (fun x_294 ex_294 => ?_)
          have h_295 : rg x_294 0 39 := rg_of_eq ex_294 (rg_max2 (rg_k (0 : Int32) 0 rfl) h_293 (by decide))
          have uh_295 := h_295.1
          have vh_295 := h_295.2
          have tx_294 : (x_294).toInt = 0 ∨ (x_294).toInt = (x_292).toInt := by rw [ex_294]; exact max_or _ _
          refine pp_i (v := x_294) (ty := .int) (C := RX4) (T := TX4) (N := 12) hx hb hts (tw_i inlX4) tyX4 tyX4_ok nmX4 hown hK hP hD hS hL_this hK_this (by decide) rfl 6 134 (by decide) (hts _ (tw_c tw_758)) rfl (tyX4_ok 6 (by decide)) rfl rfl (Nat.le_of_ble_eq_true rfl) (ps_134 _ _ _ _ _) dX4_readBehindOne_94 (fun I_296 H locs eI_296 hP hD hS => ?_)
          have hG := GX.wI hG 134 rfl eI_296 (rg_w h_295 (by decide)) (by decide)
          have tt_297 : (I_296 132 this).toInt = (I_285 132 this).toInt := by rw [eI_296, pq_uf _ _ _ (by decide)]
          have tt_298 : (I_296 134 this).toInt = (x_294).toInt := by rw [eI_296, pq_us]
          have tt_299 : (I_296 129 this).toInt = (I_285 129 this).toInt := by rw [eI_296, pq_uf _ _ _ (by decide)]
          have tt_300 : (I_296 197 this_scanner).toInt = (I_285 197 this_scanner).toInt := by rw [eI_296, pq_uf _ _ _ (by decide)]
          have tt_301 : (I_296 194 this_scanner).toInt = (I_285 194 this_scanner).toInt := by rw [eI_296, pq_uf _ _ _ (by decide)]
          refine lv_iconst (v := 0) hx hb dX4_readBehindOne_97 (by decide) ?_
          subst hQ
          exact W.zret (v := 0) hx hb hr (by decide) (fun t1 ht hW => ⟨⟨0, (σ, I_296, J, ri_266, rj, rq), rfl, ⟨I_296, ri_266, rfl, hG, (by omega), (ft_t (fun _ _ => rfl) hp_271), (Or.inr ⟨rfl, trivial⟩)⟩, by rw [ht]; exact hP, va_K.moved hW.alike hK, hD⟩, hS.F ht⟩) hS.2.2 dX4_readBehindOne_98
    · have tc_302 : 25 ≤ (I 194 this_scanner).toInt := Int32.le_iff_toInt_le.mp (nlt c_7)
      have h_303 : rg (I 194 this_scanner) 25 2147483647 := rg_le2 (nlt c_7) (rg_k (25 : Int32) 25 rfl) (rg_full _) (by decide)
      have uh_303 := h_303.1
      have vh_303 := h_303.2
      refine lv_iload_n hx hb dX4_readBehindOne_19 rfl (lv_at hl 0 rfl) ?_
      refine lv_bipush (v := 28) hx hb dX4_readBehindOne_20 (by decide) ?_
      refine lv_icmp_gt (tgt := 40) hx hb dX4_readBehindOne_22 (by decide) (fun c_304 => ?_) (fun c_304 => ?_)
      · have tc_305 : 28 < (I 194 this_scanner).toInt := Int32.lt_iff_toInt_lt.mp c_304
        have h_306 : rg (I 194 this_scanner) 29 2147483647 := rg_lt2 c_304 (rg_k (28 : Int32) 28 rfl) h_303 (by decide)
        have uh_306 := h_306.1
        have vh_306 := h_306.2
        refine lv_aload_n hx hb dX4_readBehindOne_40 rfl (lv_at hl 1 rfl) ?_
        refine pg_f (v := .int (I_1 136 this)) (C := RX4) (T := TX4) (N := 12) hx hb hts (tw_i inlX4) hown hK hP hL_this hK_this (by decide) rfl 8 (by decide) (hts _ (tw_c tw_760)) rfl dX4_readBehindOne_41 ?_
        refine lv_if_le (tgt := 99) hx hb dX4_readBehindOne_44 (by decide) (fun c_307 => ?_) (fun c_307 => ?_)
        · have tc_308 : (I_1 136 this).toInt ≤ 0 := Int32.le_iff_toInt_le.mp c_307
          have h_309 : rg (I_1 136 this) (-2147483648) 0 := rg_le1 c_307 (rg_full _) (rg_k (0 : Int32) 0 rfl) (by decide)
          have uh_309 := h_309.1
          have vh_309 := h_309.2
          refine lv_aload_n hx hb dX4_readBehindOne_99 rfl (lv_at hl 1 rfl) ?_
          refine pg_f (v := .int (I_1 138 this)) (C := RX4) (T := TX4) (N := 12) hx hb hts (tw_i inlX4) hown hK hP hL_this hK_this (by decide) rfl 10 (by decide) (hts _ (tw_c tw_762)) rfl dX4_readBehindOne_100 ?_
          have h_310 : rg (I_1 138 this) 0 1 := GX.rI hG 138 rfl
          have uh_310 := h_310.1
          have vh_310 := h_310.2
          refine lv_if_ne (tgt := 138) hx hb dX4_readBehindOne_103 (by decide) (fun c_311 => ?_) (fun c_311 => ?_)
          · have tc_312 : (I_1 138 this).toInt ≠ 0 := fun q => c_311 (Int32.toInt_inj.mp q)
            have h_313 : rg (I_1 138 this) 1 1 := rg_ne c_311 h_310 0 rfl (by decide)
            have uh_313 := h_313.1
            have vh_313 := h_313.2
            refine lv_aload_n hx hb dX4_readBehindOne_138 rfl (lv_at hl 1 rfl) ?_
            refine pg_f (v := .int (I_1 138 this)) (C := RX4) (T := TX4) (N := 12) hx hb hts (tw_i inlX4) hown hK hP hL_this hK_this (by decide) rfl 10 (by decide) (hts _ (tw_c tw_762)) rfl dX4_readBehindOne_139 ?_
            refine lv_if_eq (tgt := 182) hx hb dX4_readBehindOne_142 (by decide) (fun c_314 => ?_) (fun c_314 => ?_)
            · have tc_315 : (I_1 138 this).toInt = 0 := congrArg Int32.toInt c_314
              exact (rg_empty (rg_and h_313 (rg_of_eq c_314 (rg_k (0 : Int32) 0 rfl)) (lo := 1) (hi := 0) (by decide)) (by decide)).elim
            · have tc_316 : (I_1 138 this).toInt ≠ 0 := fun q => c_314 (Int32.toInt_inj.mp q)
              refine lv_iload_n hx hb dX4_readBehindOne_145 rfl (lv_at hl 0 rfl) ?_
              refine lv_bipush (v := 9) hx hb dX4_readBehindOne_146 (by decide) ?_
              refine lv_icmp_eq (tgt := 157) hx hb dX4_readBehindOne_148 (by decide) (fun c_317 => ?_) (fun c_317 => ?_)
              · have tc_318 : (I 194 this_scanner).toInt = 9 := congrArg Int32.toInt c_317
                exact (rg_empty (rg_and h_306 (rg_of_eq c_317 (rg_k (9 : Int32) 9 rfl)) (lo := 29) (hi := 9) (by decide)) (by decide)).elim
              · have tc_319 : (I 194 this_scanner).toInt ≠ 9 := fun q => c_317 (Int32.toInt_inj.mp q)
                refine lv_iload_n hx hb dX4_readBehindOne_151 rfl (lv_at hl 0 rfl) ?_
                refine lv_bipush (v := 10) hx hb dX4_readBehindOne_152 (by decide) ?_
                refine lv_icmp_ne (tgt := 182) hx hb dX4_readBehindOne_154 (by decide) (fun c_320 => ?_) (fun c_320 => ?_)
                · have tc_321 : (I 194 this_scanner).toInt ≠ 10 := fun q => c_320 (Int32.toInt_inj.mp q)
                  refine lv_aload_n hx hb dX4_readBehindOne_182 rfl (lv_at hl 1 rfl) ?_
                  refine pg_f (v := .int (I_1 138 this)) (C := RX4) (T := TX4) (N := 12) hx hb hts (tw_i inlX4) hown hK hP hL_this hK_this (by decide) rfl 10 (by decide) (hts _ (tw_c tw_762)) rfl dX4_readBehindOne_183 ?_
                  refine lv_if_eq (tgt := 195) hx hb dX4_readBehindOne_186 (by decide) (fun c_322 => ?_) (fun c_322 => ?_)
                  · have tc_323 : (I_1 138 this).toInt = 0 := congrArg Int32.toInt c_322
                    exact (rg_empty (rg_and h_313 (rg_of_eq c_322 (rg_k (0 : Int32) 0 rfl)) (lo := 1) (hi := 0) (by decide)) (by decide)).elim
                  · have tc_324 : (I_1 138 this).toInt ≠ 0 := fun q => c_322 (Int32.toInt_inj.mp q)
                    refine lv_iload_n hx hb dX4_readBehindOne_189 rfl (lv_at hl 0 rfl) ?_
                    refine lv_bipush (v := 32) hx hb dX4_readBehindOne_190 (by decide) ?_
                    refine lv_icmp_eq (tgt := 200) hx hb dX4_readBehindOne_192 (by decide) (fun c_325 => ?_) (fun c_325 => ?_)
                    · have tc_326 : (I 194 this_scanner).toInt = 32 := congrArg Int32.toInt c_325
                      have h_327 : rg (I 194 this_scanner) 32 32 := rg_and h_306 (rg_of_eq c_325 (rg_k (32 : Int32) 32 rfl)) (by decide)
                      have uh_327 := h_327.1
                      have vh_327 := h_327.2
                      refine lv_aload_n hx hb dX4_readBehindOne_200 rfl (lv_at hl 1 rfl) ?_
                      refine lv_iconst (v := 1) hx hb dX4_readBehindOne_201 (by decide) ?_
                      refine pk_v (va_runV (As := [.int 1]) (rest := []) ⟨hx, hb, hml, hown, hts⟩ (s_X4_settle l D t σ I_1 J ri rj rq H.size tg hSH hG.1 this (1 : Int32) hL_this hK_this) (cwV 1 hts (tw_V tw_793 tw_794 tw_795 tw_25 tw_796) rfl rfl rfl cv_yX4_settle_1 ⟨Nat.le_of_ble_eq_true rfl, Nat.le_of_ble_eq_true rfl⟩) ⟨pq_blind, pq_recv hK hP hL_this hK_this (by decide) rfl, pq_pre hK hN hP hD⟩ rfl rfl hl.1 rfl (lv_room (Nat.le_of_ble_eq_true rfl)) dX4_readBehindOne_202 ⟨Nat.le_of_ble_eq_true rfl, Nat.le_of_ble_eq_true rfl⟩) hD hS hA (fun σ1 μ1 H locs hw_329 hP hD hS => ?_)
                      obtain ⟨I_330, ri_331, hu_332, hg_333, hp_335, hp_336⟩ := hw_329
                      obtain ⟨hu_332a, hu_332b⟩ := Prod.mk.inj hu_332
                      rw [hu_332a, hu_332b] at hP hD
                      have tt_337 := hp_335
                      have tt_338 := hp_336
                      have hG := GX.tr hG hg_333 (by decide)
                      have tt_339 : (I_330 129 this).toInt = (I_1 129 this).toInt := by rw [hg_333.2.1 129 (by decide) (by decide)]
                      have tt_340 : (I_330 197 this_scanner).toInt = (I_1 197 this_scanner).toInt := by rw [hg_333.2.1 197 (by decide) (by decide)]
                      have tt_341 : (I_330 194 this_scanner).toInt = (I_1 194 this_scanner).toInt := by rw [hg_333.2.1 194 (by decide) (by decide)]
                      refine lv_aload_n hx hb dX4_readBehindOne_205 rfl (lv_at hl 1 rfl) ?_
                      refine lv_iconst (v := 1) hx hb dX4_readBehindOne_206 (by decide) ?_
                      refine pp_i (v := 1) (ty := .boolean) (C := RX4) (T := TX4) (N := 12) hx hb hts (tw_i inlX4) tyX4 tyX4_ok nmX4 hown hK hP hD hS hL_this hK_this (by decide) rfl 11 139 (by decide) (hts _ (tw_c tw_763)) rfl (tyX4_ok 11 (by decide)) rfl (by decide) (Nat.le_of_ble_eq_true rfl) (ps_139 _ _ _ _ _) dX4_readBehindOne_207 (fun I_342 H locs eI_342 hP hD hS => ?_)
                      have hG := GX.wI hG 139 rfl eI_342 (rg_w (rg_k (1 : Int32) 1 rfl) (by decide)) (by decide)
                      have tt_343 : (I_342 132 this).toInt = (I_330 132 this).toInt := by rw [eI_342, pq_uf _ _ _ (by decide)]
                      have tt_344 : (I_342 134 this).toInt = (I_330 134 this).toInt := by rw [eI_342, pq_uf _ _ _ (by decide)]
                      have tt_345 : (I_342 129 this).toInt = (I_330 129 this).toInt := by rw [eI_342, pq_uf _ _ _ (by decide)]
                      have tt_346 : (I_342 197 this_scanner).toInt = (I_330 197 this_scanner).toInt := by rw [eI_342, pq_uf _ _ _ (by decide)]
                      have tt_347 : (I_342 194 this_scanner).toInt = (I_330 194 this_scanner).toInt := by rw [eI_342, pq_uf _ _ _ (by decide)]
                      refine lv_iconst (v := 0) hx hb dX4_readBehindOne_210 (by decide) ?_
                      subst hQ
                      exact W.zret (v := 0) hx hb hr (by decide) (fun t1 ht hW => ⟨⟨0, (σ, I_342, J, ri_331, rj, rq), rfl, ⟨I_342, ri_331, rfl, hG, (by omega), (ft_t (fun _ _ => rfl) hp_336), (Or.inr ⟨rfl, trivial⟩)⟩, by rw [ht]; exact hP, va_K.moved hW.alike hK, hD⟩, hS.F ht⟩) hS.2.2 dX4_readBehindOne_211
                    · have tc_348 : (I 194 this_scanner).toInt ≠ 32 := fun q => c_325 (Int32.toInt_inj.mp q)
                      refine lv_aload_n hx hb dX4_readBehindOne_195 rfl (lv_at hl 1 rfl) ?_
                      refine lv_iconst (v := 1) hx hb dX4_readBehindOne_196 (by decide) ?_
                      refine pk_v (va_runV (As := [.int 1]) (rest := []) ⟨hx, hb, hml, hown, hts⟩ (s_X4_refuse l D t σ I_1 J ri rj rq H.size tg hSH hG.1 this (1 : Int32) hL_this hK_this (rg_w (rg_k (1 : Int32) 1 rfl) (by decide))) (cwV 1 hts (tw_V tw_748 tw_749 tw_750 tw_25 tw_751) rfl rfl rfl cv_yX4_refuse_1 ⟨Nat.le_of_ble_eq_true rfl, Nat.le_of_ble_eq_true rfl⟩) ⟨pq_blind, pq_recv hK hP hL_this hK_this (by decide) rfl, pq_pre hK hN hP hD⟩ rfl rfl hl.1 rfl (lv_room (Nat.le_of_ble_eq_true rfl)) dX4_readBehindOne_197 ⟨Nat.le_of_ble_eq_true rfl, Nat.le_of_ble_eq_true rfl⟩) hD hS hA (fun σ1 μ1 H locs hw_350 hP hD hS => ?_)
                      obtain ⟨I_351, hu_352, hg_353, hp_355⟩ := hw_350
                      obtain ⟨hu_352a, hu_352b⟩ := Prod.mk.inj hu_352
                      rw [hu_352a, hu_352b] at hP hD
                      have tt_356 := hp_355
                      have hG := GX.tr hG hg_353 (by decide)
                      have tt_357 : (I_351 132 this).toInt = (I_1 132 this).toInt := by rw [hg_353.2.1 132 (by decide) (by decide)]
                      have tt_358 : (I_351 134 this).toInt = (I_1 134 this).toInt := by rw [hg_353.2.1 134 (by decide) (by decide)]
                      have tt_359 : (I_351 197 this_scanner).toInt = (I_1 197 this_scanner).toInt := by rw [hg_353.2.1 197 (by decide) (by decide)]
                      have tt_360 : (I_351 194 this_scanner).toInt = (I_1 194 this_scanner).toInt := by rw [hg_353.2.1 194 (by decide) (by decide)]
                      refine lv_aload_n hx hb dX4_readBehindOne_200 rfl (lv_at hl 1 rfl) ?_
                      refine lv_iconst (v := 1) hx hb dX4_readBehindOne_201 (by decide) ?_
                      refine pk_v (va_runV (As := [.int 1]) (rest := []) ⟨hx, hb, hml, hown, hts⟩ (s_X4_settle l D t σ I_351 J ri rj rq H.size tg hSH hG.1 this (1 : Int32) hL_this hK_this) (cwV 1 hts (tw_V tw_793 tw_794 tw_795 tw_25 tw_796) rfl rfl rfl cv_yX4_settle_1 ⟨Nat.le_of_ble_eq_true rfl, Nat.le_of_ble_eq_true rfl⟩) ⟨pq_blind, pq_recv hK hP hL_this hK_this (by decide) rfl, pq_pre hK hN hP hD⟩ rfl rfl hl.1 rfl (lv_room (Nat.le_of_ble_eq_true rfl)) dX4_readBehindOne_202 ⟨Nat.le_of_ble_eq_true rfl, Nat.le_of_ble_eq_true rfl⟩) hD hS hA (fun σ1 μ1 H locs hw_362 hP hD hS => ?_)
                      obtain ⟨I_363, ri_364, hu_365, hg_366, hp_368, hp_369⟩ := hw_362
                      obtain ⟨hu_365a, hu_365b⟩ := Prod.mk.inj hu_365
                      rw [hu_365a, hu_365b] at hP hD
                      have tt_370 := hp_368
                      have tt_371 := hp_369
                      have hG := GX.tr hG hg_366 (by decide)
                      have tt_372 : (I_363 129 this).toInt = (I_351 129 this).toInt := by rw [hg_366.2.1 129 (by decide) (by decide)]
                      have tt_373 : (I_363 197 this_scanner).toInt = (I_351 197 this_scanner).toInt := by rw [hg_366.2.1 197 (by decide) (by decide)]
                      have tt_374 : (I_363 194 this_scanner).toInt = (I_351 194 this_scanner).toInt := by rw [hg_366.2.1 194 (by decide) (by decide)]
                      refine lv_aload_n hx hb dX4_readBehindOne_205 rfl (lv_at hl 1 rfl) ?_
                      refine lv_iconst (v := 1) hx hb dX4_readBehindOne_206 (by decide) ?_
                      refine pp_i (v := 1) (ty := .boolean) (C := RX4) (T := TX4) (N := 12) hx hb hts (tw_i inlX4) tyX4 tyX4_ok nmX4 hown hK hP hD hS hL_this hK_this (by decide) rfl 11 139 (by decide) (hts _ (tw_c tw_763)) rfl (tyX4_ok 11 (by decide)) rfl (by decide) (Nat.le_of_ble_eq_true rfl) (ps_139 _ _ _ _ _) dX4_readBehindOne_207 (fun I_375 H locs eI_375 hP hD hS => ?_)
                      have hG := GX.wI hG 139 rfl eI_375 (rg_w (rg_k (1 : Int32) 1 rfl) (by decide)) (by decide)
                      have tt_376 : (I_375 132 this).toInt = (I_363 132 this).toInt := by rw [eI_375, pq_uf _ _ _ (by decide)]
                      have tt_377 : (I_375 134 this).toInt = (I_363 134 this).toInt := by rw [eI_375, pq_uf _ _ _ (by decide)]
                      have tt_378 : (I_375 129 this).toInt = (I_363 129 this).toInt := by rw [eI_375, pq_uf _ _ _ (by decide)]
                      have tt_379 : (I_375 197 this_scanner).toInt = (I_363 197 this_scanner).toInt := by rw [eI_375, pq_uf _ _ _ (by decide)]
                      have tt_380 : (I_375 194 this_scanner).toInt = (I_363 194 this_scanner).toInt := by rw [eI_375, pq_uf _ _ _ (by decide)]
                      refine lv_iconst (v := 0) hx hb dX4_readBehindOne_210 (by decide) ?_
                      subst hQ
                      exact W.zret (v := 0) hx hb hr (by decide) (fun t1 ht hW => ⟨⟨0, (σ, I_375, J, ri_364, rj, rq), rfl, ⟨I_375, ri_364, rfl, hG, (by omega), (ft_t (fun _ _ => rfl) hp_369), (Or.inr ⟨rfl, trivial⟩)⟩, by rw [ht]; exact hP, va_K.moved hW.alike hK, hD⟩, hS.F ht⟩) hS.2.2 dX4_readBehindOne_211
                · have tc_381 : (I 194 this_scanner).toInt = 10 := congrArg Int32.toInt c_320
                  exact (rg_empty (rg_and h_306 (rg_of_eq c_320 (rg_k (10 : Int32) 10 rfl)) (lo := 29) (hi := 10) (by decide)) (by decide)).elim
          · have tc_382 : (I_1 138 this).toInt = 0 := congrArg Int32.toInt c_311
            have h_383 : rg (I_1 138 this) 0 0 := rg_and h_310 (rg_of_eq c_311 (rg_k (0 : Int32) 0 rfl)) (by decide)
            have uh_383 := h_383.1
            have vh_383 := h_383.2
            refine lv_iload_n hx hb dX4_readBehindOne_106 rfl (lv_at hl 0 rfl) ?_
            refine lv_bipush (v := 19) hx hb dX4_readBehindOne_107 (by decide) ?_
            refine lv_icmp_lt (tgt := 138) hx hb dX4_readBehindOne_109 (by decide) (fun c_384 => ?_) (fun c_384 => ?_)
            · have tc_385 : (I 194 this_scanner).toInt < 19 := Int32.lt_iff_toInt_lt.mp c_384
              exact (rg_empty (rg_lt1 c_384 h_306 (rg_k (19 : Int32) 19 rfl) (lo := 29) (hi := 18) (by decide)) (by decide)).elim
            · have tc_386 : 19 ≤ (I 194 this_scanner).toInt := Int32.le_iff_toInt_le.mp (nlt c_384)
              refine lv_iload_n hx hb dX4_readBehindOne_112 rfl (lv_at hl 0 rfl) ?_
              refine lv_bipush (v := 24) hx hb dX4_readBehindOne_113 (by decide) ?_
              refine lv_icmp_gt (tgt := 138) hx hb dX4_readBehindOne_115 (by decide) (fun c_387 => ?_) (fun c_387 => ?_)
              · have tc_388 : 24 < (I 194 this_scanner).toInt := Int32.lt_iff_toInt_lt.mp c_387
                refine lv_aload_n hx hb dX4_readBehindOne_138 rfl (lv_at hl 1 rfl) ?_
                refine pg_f (v := .int (I_1 138 this)) (C := RX4) (T := TX4) (N := 12) hx hb hts (tw_i inlX4) hown hK hP hL_this hK_this (by decide) rfl 10 (by decide) (hts _ (tw_c tw_762)) rfl dX4_readBehindOne_139 ?_
                refine lv_if_eq (tgt := 182) hx hb dX4_readBehindOne_142 (by decide) (fun c_389 => ?_) (fun c_389 => ?_)
                · have tc_390 : (I_1 138 this).toInt = 0 := congrArg Int32.toInt c_389
                  refine lv_aload_n hx hb dX4_readBehindOne_182 rfl (lv_at hl 1 rfl) ?_
                  refine pg_f (v := .int (I_1 138 this)) (C := RX4) (T := TX4) (N := 12) hx hb hts (tw_i inlX4) hown hK hP hL_this hK_this (by decide) rfl 10 (by decide) (hts _ (tw_c tw_762)) rfl dX4_readBehindOne_183 ?_
                  refine lv_if_eq (tgt := 195) hx hb dX4_readBehindOne_186 (by decide) (fun c_391 => ?_) (fun c_391 => ?_)
                  · have tc_392 : (I_1 138 this).toInt = 0 := congrArg Int32.toInt c_391
                    refine lv_aload_n hx hb dX4_readBehindOne_195 rfl (lv_at hl 1 rfl) ?_
                    refine lv_iconst (v := 1) hx hb dX4_readBehindOne_196 (by decide) ?_
                    refine pk_v (va_runV (As := [.int 1]) (rest := []) ⟨hx, hb, hml, hown, hts⟩ (s_X4_refuse l D t σ I_1 J ri rj rq H.size tg hSH hG.1 this (1 : Int32) hL_this hK_this (rg_w (rg_k (1 : Int32) 1 rfl) (by decide))) (cwV 1 hts (tw_V tw_748 tw_749 tw_750 tw_25 tw_751) rfl rfl rfl cv_yX4_refuse_1 ⟨Nat.le_of_ble_eq_true rfl, Nat.le_of_ble_eq_true rfl⟩) ⟨pq_blind, pq_recv hK hP hL_this hK_this (by decide) rfl, pq_pre hK hN hP hD⟩ rfl rfl hl.1 rfl (lv_room (Nat.le_of_ble_eq_true rfl)) dX4_readBehindOne_197 ⟨Nat.le_of_ble_eq_true rfl, Nat.le_of_ble_eq_true rfl⟩) hD hS hA (fun σ1 μ1 H locs hw_394 hP hD hS => ?_)
                    obtain ⟨I_395, hu_396, hg_397, hp_399⟩ := hw_394
                    obtain ⟨hu_396a, hu_396b⟩ := Prod.mk.inj hu_396
                    rw [hu_396a, hu_396b] at hP hD
                    have tt_400 := hp_399
                    have hG := GX.tr hG hg_397 (by decide)
                    have tt_401 : (I_395 132 this).toInt = (I_1 132 this).toInt := by rw [hg_397.2.1 132 (by decide) (by decide)]
                    have tt_402 : (I_395 134 this).toInt = (I_1 134 this).toInt := by rw [hg_397.2.1 134 (by decide) (by decide)]
                    have tt_403 : (I_395 197 this_scanner).toInt = (I_1 197 this_scanner).toInt := by rw [hg_397.2.1 197 (by decide) (by decide)]
                    have tt_404 : (I_395 194 this_scanner).toInt = (I_1 194 this_scanner).toInt := by rw [hg_397.2.1 194 (by decide) (by decide)]
                    refine lv_aload_n hx hb dX4_readBehindOne_200 rfl (lv_at hl 1 rfl) ?_
                    refine lv_iconst (v := 1) hx hb dX4_readBehindOne_201 (by decide) ?_
                    refine pk_v (va_runV (As := [.int 1]) (rest := []) ⟨hx, hb, hml, hown, hts⟩ (s_X4_settle l D t σ I_395 J ri rj rq H.size tg hSH hG.1 this (1 : Int32) hL_this hK_this) (cwV 1 hts (tw_V tw_793 tw_794 tw_795 tw_25 tw_796) rfl rfl rfl cv_yX4_settle_1 ⟨Nat.le_of_ble_eq_true rfl, Nat.le_of_ble_eq_true rfl⟩) ⟨pq_blind, pq_recv hK hP hL_this hK_this (by decide) rfl, pq_pre hK hN hP hD⟩ rfl rfl hl.1 rfl (lv_room (Nat.le_of_ble_eq_true rfl)) dX4_readBehindOne_202 ⟨Nat.le_of_ble_eq_true rfl, Nat.le_of_ble_eq_true rfl⟩) hD hS hA (fun σ1 μ1 H locs hw_406 hP hD hS => ?_)
                    obtain ⟨I_407, ri_408, hu_409, hg_410, hp_412, hp_413⟩ := hw_406
                    obtain ⟨hu_409a, hu_409b⟩ := Prod.mk.inj hu_409
                    rw [hu_409a, hu_409b] at hP hD
                    have tt_414 := hp_412
                    have tt_415 := hp_413
                    have hG := GX.tr hG hg_410 (by decide)
                    have tt_416 : (I_407 129 this).toInt = (I_395 129 this).toInt := by rw [hg_410.2.1 129 (by decide) (by decide)]
                    have tt_417 : (I_407 197 this_scanner).toInt = (I_395 197 this_scanner).toInt := by rw [hg_410.2.1 197 (by decide) (by decide)]
                    have tt_418 : (I_407 194 this_scanner).toInt = (I_395 194 this_scanner).toInt := by rw [hg_410.2.1 194 (by decide) (by decide)]
                    refine lv_aload_n hx hb dX4_readBehindOne_205 rfl (lv_at hl 1 rfl) ?_
                    refine lv_iconst (v := 1) hx hb dX4_readBehindOne_206 (by decide) ?_
                    refine pp_i (v := 1) (ty := .boolean) (C := RX4) (T := TX4) (N := 12) hx hb hts (tw_i inlX4) tyX4 tyX4_ok nmX4 hown hK hP hD hS hL_this hK_this (by decide) rfl 11 139 (by decide) (hts _ (tw_c tw_763)) rfl (tyX4_ok 11 (by decide)) rfl (by decide) (Nat.le_of_ble_eq_true rfl) (ps_139 _ _ _ _ _) dX4_readBehindOne_207 (fun I_419 H locs eI_419 hP hD hS => ?_)
                    have hG := GX.wI hG 139 rfl eI_419 (rg_w (rg_k (1 : Int32) 1 rfl) (by decide)) (by decide)
                    have tt_420 : (I_419 132 this).toInt = (I_407 132 this).toInt := by rw [eI_419, pq_uf _ _ _ (by decide)]
                    have tt_421 : (I_419 134 this).toInt = (I_407 134 this).toInt := by rw [eI_419, pq_uf _ _ _ (by decide)]
                    have tt_422 : (I_419 129 this).toInt = (I_407 129 this).toInt := by rw [eI_419, pq_uf _ _ _ (by decide)]
                    have tt_423 : (I_419 197 this_scanner).toInt = (I_407 197 this_scanner).toInt := by rw [eI_419, pq_uf _ _ _ (by decide)]
                    have tt_424 : (I_419 194 this_scanner).toInt = (I_407 194 this_scanner).toInt := by rw [eI_419, pq_uf _ _ _ (by decide)]
                    refine lv_iconst (v := 0) hx hb dX4_readBehindOne_210 (by decide) ?_
                    subst hQ
                    exact W.zret (v := 0) hx hb hr (by decide) (fun t1 ht hW => ⟨⟨0, (σ, I_419, J, ri_408, rj, rq), rfl, ⟨I_419, ri_408, rfl, hG, (by omega), (ft_t (fun _ _ => rfl) hp_413), (Or.inr ⟨rfl, trivial⟩)⟩, by rw [ht]; exact hP, va_K.moved hW.alike hK, hD⟩, hS.F ht⟩) hS.2.2 dX4_readBehindOne_211
                  · have tc_425 : (I_1 138 this).toInt ≠ 0 := fun q => c_391 (Int32.toInt_inj.mp q)
                    exact (rg_empty (rg_ne c_391 h_383 0 rfl (lo := 1) (hi := (-1)) (by decide)) (by decide)).elim
                · have tc_426 : (I_1 138 this).toInt ≠ 0 := fun q => c_389 (Int32.toInt_inj.mp q)
                  exact (rg_empty (rg_ne c_389 h_383 0 rfl (lo := 1) (hi := (-1)) (by decide)) (by decide)).elim
              · have tc_427 : (I 194 this_scanner).toInt ≤ 24 := Int32.le_iff_toInt_le.mp (nlt c_387)
                exact (rg_empty (rg_le1 (nlt c_387) h_306 (rg_k (24 : Int32) 24 rfl) (lo := 29) (hi := 24) (by decide)) (by decide)).elim
        · have tc_428 : 0 < (I_1 136 this).toInt := Int32.lt_iff_toInt_lt.mp (nle c_307)
          have h_429 : rg (I_1 136 this) 1 2147483647 := rg_lt2 (nle c_307) (rg_k (0 : Int32) 0 rfl) (rg_full _) (by decide)
          have uh_429 := h_429.1
          have vh_429 := h_429.2
          refine lv_iload_n hx hb dX4_readBehindOne_47 rfl (lv_at hl 0 rfl) ?_
          refine lv_bipush (v := 30) hx hb dX4_readBehindOne_48 (by decide) ?_
          refine lv_icmp_eq (tgt := 58) hx hb dX4_readBehindOne_50 (by decide) (fun c_430 => ?_) (fun c_430 => ?_)
          · have tc_431 : (I 194 this_scanner).toInt = 30 := congrArg Int32.toInt c_430
            have h_432 : rg (I 194 this_scanner) 30 30 := rg_and h_306 (rg_of_eq c_430 (rg_k (30 : Int32) 30 rfl)) (by decide)
            have uh_432 := h_432.1
            have vh_432 := h_432.2
            refine lv_aload_n hx hb dX4_readBehindOne_58 rfl (lv_at hl 1 rfl) ?_
            refine lv_iconst (v := 1) hx hb dX4_readBehindOne_59 (by decide) ?_
            refine pk_v (va_runV (As := [.int 1]) (rest := []) ⟨hx, hb, hml, hown, hts⟩ (s_X4_settle l D t σ I_1 J ri rj rq H.size tg hSH hG.1 this (1 : Int32) hL_this hK_this) (cwV 1 hts (tw_V tw_793 tw_794 tw_795 tw_25 tw_796) rfl rfl rfl cv_yX4_settle_1 ⟨Nat.le_of_ble_eq_true rfl, Nat.le_of_ble_eq_true rfl⟩) ⟨pq_blind, pq_recv hK hP hL_this hK_this (by decide) rfl, pq_pre hK hN hP hD⟩ rfl rfl hl.1 rfl (lv_room (Nat.le_of_ble_eq_true rfl)) dX4_readBehindOne_60 ⟨Nat.le_of_ble_eq_true rfl, Nat.le_of_ble_eq_true rfl⟩) hD hS hA (fun σ1 μ1 H locs hw_434 hP hD hS => ?_)
            obtain ⟨I_435, ri_436, hu_437, hg_438, hp_440, hp_441⟩ := hw_434
            obtain ⟨hu_437a, hu_437b⟩ := Prod.mk.inj hu_437
            rw [hu_437a, hu_437b] at hP hD
            have tt_442 := hp_440
            have tt_443 := hp_441
            have hG := GX.tr hG hg_438 (by decide)
            have tt_444 : (I_435 129 this).toInt = (I_1 129 this).toInt := by rw [hg_438.2.1 129 (by decide) (by decide)]
            have tt_445 : (I_435 197 this_scanner).toInt = (I_1 197 this_scanner).toInt := by rw [hg_438.2.1 197 (by decide) (by decide)]
            have tt_446 : (I_435 194 this_scanner).toInt = (I_1 194 this_scanner).toInt := by rw [hg_438.2.1 194 (by decide) (by decide)]
            refine lv_aload_n hx hb dX4_readBehindOne_63 rfl (lv_at hl 1 rfl) ?_
            refine lv_dup hx hb dX4_readBehindOne_64 rfl ?_
            refine pg_f (v := .int (I_435 136 this)) (C := RX4) (T := TX4) (N := 12) hx hb hts (tw_i inlX4) hown hK hP hL_this hK_this (by decide) rfl 8 (by decide) (hts _ (tw_c tw_760)) rfl dX4_readBehindOne_65 ?_
            refine lv_iconst (v := 1) hx hb dX4_readBehindOne_68 (by decide) ?_
            refine lv_isub hx hb dX4_readBehindOne_69 ?_
            refine lv_topi (fun x_447 ex_447 => ?_)
            refine pp_i (v := x_447) (ty := .int) (C := RX4) (T := TX4) (N := 12) hx hb hts (tw_i inlX4) tyX4 tyX4_ok nmX4 hown hK hP hD hS hL_this hK_this (by decide) rfl 8 136 (by decide) (hts _ (tw_c tw_760)) rfl (tyX4_ok 8 (by decide)) rfl rfl (Nat.le_of_ble_eq_true rfl) (ps_136 _ _ _ _ _) dX4_readBehindOne_70 (fun I_448 H locs eI_448 hP hD hS => ?_)
            have hG := GX.wI hG 136 rfl eI_448 (rg_w (rg_full _) (by decide)) (by decide)
            have tt_449 : (I_448 132 this).toInt = (I_435 132 this).toInt := by rw [eI_448, pq_uf _ _ _ (by decide)]
            have tt_450 : (I_448 134 this).toInt = (I_435 134 this).toInt := by rw [eI_448, pq_uf _ _ _ (by decide)]
            have tt_451 : (I_448 129 this).toInt = (I_435 129 this).toInt := by rw [eI_448, pq_uf _ _ _ (by decide)]
            have tt_452 : (I_448 197 this_scanner).toInt = (I_435 197 this_scanner).toInt := by rw [eI_448, pq_uf _ _ _ (by decide)]
            have tt_453 : (I_448 194 this_scanner).toInt = (I_435 194 this_scanner).toInt := by rw [eI_448, pq_uf _ _ _ (by decide)]
            refine lv_aload_n hx hb dX4_readBehindOne_73 rfl (lv_at hl 1 rfl) ?_
            refine lv_dup hx hb dX4_readBehindOne_74 rfl ?_
            refine pg_f (v := .int (I_448 135 this)) (C := RX4) (T := TX4) (N := 12) hx hb hts (tw_i inlX4) hown hK hP hL_this hK_this (by decide) rfl 7 (by decide) (hts _ (tw_c tw_759)) rfl dX4_readBehindOne_75 ?_
            refine lv_iconst (v := 1) hx hb dX4_readBehindOne_78 (by decide) ?_
            refine lv_isub hx hb dX4_readBehindOne_79 ?_
            refine lv_topi (fun x_454 ex_454 => ?_)
            refine pp_i (v := x_454) (ty := .int) (C := RX4) (T := TX4) (N := 12) hx hb hts (tw_i inlX4) tyX4 tyX4_ok nmX4 hown hK hP hD hS hL_this hK_this (by decide) rfl 7 135 (by decide) (hts _ (tw_c tw_759)) rfl (tyX4_ok 7 (by decide)) rfl rfl (Nat.le_of_ble_eq_true rfl) (ps_135 _ _ _ _ _) dX4_readBehindOne_80 (fun I_455 H locs eI_455 hP hD hS => ?_)
            have hG := GX.wI hG 135 rfl eI_455 (rg_w (rg_full _) (by decide)) (by decide)
            have tt_456 : (I_455 132 this).toInt = (I_448 132 this).toInt := by rw [eI_455, pq_uf _ _ _ (by decide)]
            have tt_457 : (I_455 134 this).toInt = (I_448 134 this).toInt := by rw [eI_455, pq_uf _ _ _ (by decide)]
            have tt_458 : (I_455 129 this).toInt = (I_448 129 this).toInt := by rw [eI_455, pq_uf _ _ _ (by decide)]
            have tt_459 : (I_455 197 this_scanner).toInt = (I_448 197 this_scanner).toInt := by rw [eI_455, pq_uf _ _ _ (by decide)]
            have tt_460 : (I_455 194 this_scanner).toInt = (I_448 194 this_scanner).toInt := by rw [eI_455, pq_uf _ _ _ (by decide)]
            refine lv_aload_n hx hb dX4_readBehindOne_83 rfl (lv_at hl 1 rfl) ?_
            refine lv_iconst (v := 0) hx hb dX4_readBehindOne_84 (by decide) ?_
            refine lv_aload_n hx hb dX4_readBehindOne_85 rfl (lv_at hl 1 rfl) ?_
            refine pg_f (v := .int (I_455 134 this)) (C := RX4) (T := TX4) (N := 12) hx hb hts (tw_i inlX4) hown hK hP hL_this hK_this (by decide) rfl 6 (by decide) (hts _ (tw_c tw_758)) rfl dX4_readBehindOne_86 ?_
            have h_461 : rg (I_455 134 this) 0 40 := GX.rI hG 134 rfl
            have uh_461 := h_461.1
            have vh_461 := h_461.2
            refine lv_iconst (v := 1) hx hb dX4_readBehindOne_89 (by decide) ?_
            refine lv_isub hx hb dX4_readBehindOne_90 ?_
            refine lv_topi (fun x_462 ex_462 => ?_)
            have h_463 : rg x_462 (-1) 39 := rg_of_eq ex_462 (rg_sub h_461 (rg_k (1 : Int32) 1 rfl) (by decide))
            have uh_463 := h_463.1
            have vh_463 := h_463.2
            have tx_462 : (x_462).toInt = (I_455 134 this).toInt - 1 := by rw [ex_462]; exact i_sub_rg (a2 := (I_455 134 this).toInt) (b2 := 1) rfl rfl h_461 (rg_k (1 : Int32) 1 rfl) (by decide)
            refine va_mmax hx hb (hml.trans hl.1.symm) hown (hts _ (tw_c tw_789)) (hts _ (tw_c tw_275)) (hts _ (tw_c tw_276)) (hts _ (tw_c tw_277)) (Nat.le_of_ble_eq_true rfl) (Nat.le_of_ble_eq_true rfl) (Nat.zero_le _) (Nat.zero_le _) dX4_readBehindOne_91 ?_
            refine lv_topi (fun x_464 ex_464 => ?_)
            have h_465 : rg x_464 0 39 := rg_of_eq ex_464 (rg_max2 (rg_k (0 : Int32) 0 rfl) h_463 (by decide))
            have uh_465 := h_465.1
            have vh_465 := h_465.2
            have tx_464 : (x_464).toInt = 0 ∨ (x_464).toInt = (x_462).toInt := by rw [ex_464]; exact max_or _ _
            refine pp_i (v := x_464) (ty := .int) (C := RX4) (T := TX4) (N := 12) hx hb hts (tw_i inlX4) tyX4 tyX4_ok nmX4 hown hK hP hD hS hL_this hK_this (by decide) rfl 6 134 (by decide) (hts _ (tw_c tw_758)) rfl (tyX4_ok 6 (by decide)) rfl rfl (Nat.le_of_ble_eq_true rfl) (ps_134 _ _ _ _ _) dX4_readBehindOne_94 (fun I_466 H locs eI_466 hP hD hS => ?_)
            have hG := GX.wI hG 134 rfl eI_466 (rg_w h_465 (by decide)) (by decide)
            have tt_467 : (I_466 132 this).toInt = (I_455 132 this).toInt := by rw [eI_466, pq_uf _ _ _ (by decide)]
            have tt_468 : (I_466 134 this).toInt = (x_464).toInt := by rw [eI_466, pq_us]
            have tt_469 : (I_466 129 this).toInt = (I_455 129 this).toInt := by rw [eI_466, pq_uf _ _ _ (by decide)]
            have tt_470 : (I_466 197 this_scanner).toInt = (I_455 197 this_scanner).toInt := by rw [eI_466, pq_uf _ _ _ (by decide)]
            have tt_471 : (I_466 194 this_scanner).toInt = (I_455 194 this_scanner).toInt := by rw [eI_466, pq_uf _ _ _ (by decide)]
            refine lv_iconst (v := 0) hx hb dX4_readBehindOne_97 (by decide) ?_
            subst hQ
            exact W.zret (v := 0) hx hb hr (by decide) (fun t1 ht hW => ⟨⟨0, (σ, I_466, J, ri_436, rj, rq), rfl, ⟨I_466, ri_436, rfl, hG, (by omega), (ft_t (fun _ _ => rfl) hp_441), (Or.inr ⟨rfl, trivial⟩)⟩, by rw [ht]; exact hP, va_K.moved hW.alike hK, hD⟩, hS.F ht⟩) hS.2.2 dX4_readBehindOne_98
          · have tc_472 : (I 194 this_scanner).toInt ≠ 30 := fun q => c_430 (Int32.toInt_inj.mp q)
            refine lv_aload_n hx hb dX4_readBehindOne_53 rfl (lv_at hl 1 rfl) ?_
            refine lv_iconst (v := 1) hx hb dX4_readBehindOne_54 (by decide) ?_
            refine pk_v (va_runV (As := [.int 1]) (rest := []) ⟨hx, hb, hml, hown, hts⟩ (s_X4_refuse l D t σ I_1 J ri rj rq H.size tg hSH hG.1 this (1 : Int32) hL_this hK_this (rg_w (rg_k (1 : Int32) 1 rfl) (by decide))) (cwV 1 hts (tw_V tw_748 tw_749 tw_750 tw_25 tw_751) rfl rfl rfl cv_yX4_refuse_1 ⟨Nat.le_of_ble_eq_true rfl, Nat.le_of_ble_eq_true rfl⟩) ⟨pq_blind, pq_recv hK hP hL_this hK_this (by decide) rfl, pq_pre hK hN hP hD⟩ rfl rfl hl.1 rfl (lv_room (Nat.le_of_ble_eq_true rfl)) dX4_readBehindOne_55 ⟨Nat.le_of_ble_eq_true rfl, Nat.le_of_ble_eq_true rfl⟩) hD hS hA (fun σ1 μ1 H locs hw_474 hP hD hS => ?_)
            obtain ⟨I_475, hu_476, hg_477, hp_479⟩ := hw_474
            obtain ⟨hu_476a, hu_476b⟩ := Prod.mk.inj hu_476
            rw [hu_476a, hu_476b] at hP hD
            have tt_480 := hp_479
            have hG := GX.tr hG hg_477 (by decide)
            have tt_481 : (I_475 132 this).toInt = (I_1 132 this).toInt := by rw [hg_477.2.1 132 (by decide) (by decide)]
            have tt_482 : (I_475 134 this).toInt = (I_1 134 this).toInt := by rw [hg_477.2.1 134 (by decide) (by decide)]
            have tt_483 : (I_475 197 this_scanner).toInt = (I_1 197 this_scanner).toInt := by rw [hg_477.2.1 197 (by decide) (by decide)]
            have tt_484 : (I_475 194 this_scanner).toInt = (I_1 194 this_scanner).toInt := by rw [hg_477.2.1 194 (by decide) (by decide)]
            refine lv_aload_n hx hb dX4_readBehindOne_58 rfl (lv_at hl 1 rfl) ?_
            refine lv_iconst (v := 1) hx hb dX4_readBehindOne_59 (by decide) ?_
            refine pk_v (va_runV (As := [.int 1]) (rest := []) ⟨hx, hb, hml, hown, hts⟩ (s_X4_settle l D t σ I_475 J ri rj rq H.size tg hSH hG.1 this (1 : Int32) hL_this hK_this) (cwV 1 hts (tw_V tw_793 tw_794 tw_795 tw_25 tw_796) rfl rfl rfl cv_yX4_settle_1 ⟨Nat.le_of_ble_eq_true rfl, Nat.le_of_ble_eq_true rfl⟩) ⟨pq_blind, pq_recv hK hP hL_this hK_this (by decide) rfl, pq_pre hK hN hP hD⟩ rfl rfl hl.1 rfl (lv_room (Nat.le_of_ble_eq_true rfl)) dX4_readBehindOne_60 ⟨Nat.le_of_ble_eq_true rfl, Nat.le_of_ble_eq_true rfl⟩) hD hS hA (fun σ1 μ1 H locs hw_486 hP hD hS => ?_)
            obtain ⟨I_487, ri_488, hu_489, hg_490, hp_492, hp_493⟩ := hw_486
            obtain ⟨hu_489a, hu_489b⟩ := Prod.mk.inj hu_489
            rw [hu_489a, hu_489b] at hP hD
            have tt_494 := hp_492
            have tt_495 := hp_493
            have hG := GX.tr hG hg_490 (by decide)
            have tt_496 : (I_487 129 this).toInt = (I_475 129 this).toInt := by rw [hg_490.2.1 129 (by decide) (by decide)]
            have tt_497 : (I_487 197 this_scanner).toInt = (I_475 197 this_scanner).toInt := by rw [hg_490.2.1 197 (by decide) (by decide)]
            have tt_498 : (I_487 194 this_scanner).toInt = (I_475 194 this_scanner).toInt := by rw [hg_490.2.1 194 (by decide) (by decide)]
            refine lv_aload_n hx hb dX4_readBehindOne_63 rfl (lv_at hl 1 rfl) ?_
            refine lv_dup hx hb dX4_readBehindOne_64 rfl ?_
            refine pg_f (v := .int (I_487 136 this)) (C := RX4) (T := TX4) (N := 12) hx hb hts (tw_i inlX4) hown hK hP hL_this hK_this (by decide) rfl 8 (by decide) (hts _ (tw_c tw_760)) rfl dX4_readBehindOne_65 ?_
            refine lv_iconst (v := 1) hx hb dX4_readBehindOne_68 (by decide) ?_
            refine lv_isub hx hb dX4_readBehindOne_69 ?_
            refine lv_topi (fun x_499 ex_499 => ?_)
            refine pp_i (v := x_499) (ty := .int) (C := RX4) (T := TX4) (N := 12) hx hb hts (tw_i inlX4) tyX4 tyX4_ok nmX4 hown hK hP hD hS hL_this hK_this (by decide) rfl 8 136 (by decide) (hts _ (tw_c tw_760)) rfl (tyX4_ok 8 (by decide)) rfl rfl (Nat.le_of_ble_eq_true rfl) (ps_136 _ _ _ _ _) dX4_readBehindOne_70 (fun I_500 H locs eI_500 hP hD hS => ?_)
            have hG := GX.wI hG 136 rfl eI_500 (rg_w (rg_full _) (by decide)) (by decide)
            have tt_501 : (I_500 132 this).toInt = (I_487 132 this).toInt := by rw [eI_500, pq_uf _ _ _ (by decide)]
            have tt_502 : (I_500 134 this).toInt = (I_487 134 this).toInt := by rw [eI_500, pq_uf _ _ _ (by decide)]
            have tt_503 : (I_500 129 this).toInt = (I_487 129 this).toInt := by rw [eI_500, pq_uf _ _ _ (by decide)]
            have tt_504 : (I_500 197 this_scanner).toInt = (I_487 197 this_scanner).toInt := by rw [eI_500, pq_uf _ _ _ (by decide)]
            have tt_505 : (I_500 194 this_scanner).toInt = (I_487 194 this_scanner).toInt := by rw [eI_500, pq_uf _ _ _ (by decide)]
            refine lv_aload_n hx hb dX4_readBehindOne_73 rfl (lv_at hl 1 rfl) ?_
            refine lv_dup hx hb dX4_readBehindOne_74 rfl ?_
            refine pg_f (v := .int (I_500 135 this)) (C := RX4) (T := TX4) (N := 12) hx hb hts (tw_i inlX4) hown hK hP hL_this hK_this (by decide) rfl 7 (by decide) (hts _ (tw_c tw_759)) rfl dX4_readBehindOne_75 ?_
            refine lv_iconst (v := 1) hx hb dX4_readBehindOne_78 (by decide) ?_
            refine lv_isub hx hb dX4_readBehindOne_79 ?_
            refine lv_topi (fun x_506 ex_506 => ?_)
            refine pp_i (v := x_506) (ty := .int) (C := RX4) (T := TX4) (N := 12) hx hb hts (tw_i inlX4) tyX4 tyX4_ok nmX4 hown hK hP hD hS hL_this hK_this (by decide) rfl 7 135 (by decide) (hts _ (tw_c tw_759)) rfl (tyX4_ok 7 (by decide)) rfl rfl (Nat.le_of_ble_eq_true rfl) (ps_135 _ _ _ _ _) dX4_readBehindOne_80 (fun I_507 H locs eI_507 hP hD hS => ?_)
            have hG := GX.wI hG 135 rfl eI_507 (rg_w (rg_full _) (by decide)) (by decide)
            have tt_508 : (I_507 132 this).toInt = (I_500 132 this).toInt := by rw [eI_507, pq_uf _ _ _ (by decide)]
            have tt_509 : (I_507 134 this).toInt = (I_500 134 this).toInt := by rw [eI_507, pq_uf _ _ _ (by decide)]
            have tt_510 : (I_507 129 this).toInt = (I_500 129 this).toInt := by rw [eI_507, pq_uf _ _ _ (by decide)]
            have tt_511 : (I_507 197 this_scanner).toInt = (I_500 197 this_scanner).toInt := by rw [eI_507, pq_uf _ _ _ (by decide)]
            have tt_512 : (I_507 194 this_scanner).toInt = (I_500 194 this_scanner).toInt := by rw [eI_507, pq_uf _ _ _ (by decide)]
            refine lv_aload_n hx hb dX4_readBehindOne_83 rfl (lv_at hl 1 rfl) ?_
            refine lv_iconst (v := 0) hx hb dX4_readBehindOne_84 (by decide) ?_
            refine lv_aload_n hx hb dX4_readBehindOne_85 rfl (lv_at hl 1 rfl) ?_
            refine pg_f (v := .int (I_507 134 this)) (C := RX4) (T := TX4) (N := 12) hx hb hts (tw_i inlX4) hown hK hP hL_this hK_this (by decide) rfl 6 (by decide) (hts _ (tw_c tw_758)) rfl dX4_readBehindOne_86 ?_
            have h_513 : rg (I_507 134 this) 0 40 := GX.rI hG 134 rfl
            have uh_513 := h_513.1
            have vh_513 := h_513.2
            refine lv_iconst (v := 1) hx hb dX4_readBehindOne_89 (by decide) ?_
            refine lv_isub hx hb dX4_readBehindOne_90 ?_
            refine lv_topi (fun x_514 ex_514 => ?_)
            have h_515 : rg x_514 (-1) 39 := rg_of_eq ex_514 (rg_sub h_513 (rg_k (1 : Int32) 1 rfl) (by decide))
            have uh_515 := h_515.1
            have vh_515 := h_515.2
            have tx_514 : (x_514).toInt = (I_507 134 this).toInt - 1 := by rw [ex_514]; exact i_sub_rg (a2 := (I_507 134 this).toInt) (b2 := 1) rfl rfl h_513 (rg_k (1 : Int32) 1 rfl) (by decide)
            refine va_mmax hx hb (hml.trans hl.1.symm) hown (hts _ (tw_c tw_789)) (hts _ (tw_c tw_275)) (hts _ (tw_c tw_276)) (hts _ (tw_c tw_277)) (Nat.le_of_ble_eq_true rfl) (Nat.le_of_ble_eq_true rfl) (Nat.zero_le _) (Nat.zero_le _) dX4_readBehindOne_91 ?_
            refine lv_topi (fun x_516 ex_516 => ?_)
            have h_517 : rg x_516 0 39 := rg_of_eq ex_516 (rg_max2 (rg_k (0 : Int32) 0 rfl) h_515 (by decide))
            have uh_517 := h_517.1
            have vh_517 := h_517.2
            have tx_516 : (x_516).toInt = 0 ∨ (x_516).toInt = (x_514).toInt := by rw [ex_516]; exact max_or _ _
            refine pp_i (v := x_516) (ty := .int) (C := RX4) (T := TX4) (N := 12) hx hb hts (tw_i inlX4) tyX4 tyX4_ok nmX4 hown hK hP hD hS hL_this hK_this (by decide) rfl 6 134 (by decide) (hts _ (tw_c tw_758)) rfl (tyX4_ok 6 (by decide)) rfl rfl (Nat.le_of_ble_eq_true rfl) (ps_134 _ _ _ _ _) dX4_readBehindOne_94 (fun I_518 H locs eI_518 hP hD hS => ?_)
            have hG := GX.wI hG 134 rfl eI_518 (rg_w h_517 (by decide)) (by decide)
            have tt_519 : (I_518 132 this).toInt = (I_507 132 this).toInt := by rw [eI_518, pq_uf _ _ _ (by decide)]
            have tt_520 : (I_518 134 this).toInt = (x_516).toInt := by rw [eI_518, pq_us]
            have tt_521 : (I_518 129 this).toInt = (I_507 129 this).toInt := by rw [eI_518, pq_uf _ _ _ (by decide)]
            have tt_522 : (I_518 197 this_scanner).toInt = (I_507 197 this_scanner).toInt := by rw [eI_518, pq_uf _ _ _ (by decide)]
            have tt_523 : (I_518 194 this_scanner).toInt = (I_507 194 this_scanner).toInt := by rw [eI_518, pq_uf _ _ _ (by decide)]
            refine lv_iconst (v := 0) hx hb dX4_readBehindOne_97 (by decide) ?_
            subst hQ
            exact W.zret (v := 0) hx hb hr (by decide) (fun t1 ht hW => ⟨⟨0, (σ, I_518, J, ri_488, rj, rq), rfl, ⟨I_518, ri_488, rfl, hG, (by omega), (ft_t (fun _ _ => rfl) hp_493), (Or.inr ⟨rfl, trivial⟩)⟩, by rw [ht]; exact hP, va_K.moved hW.alike hK, hD⟩, hS.F ht⟩) hS.2.2 dX4_readBehindOne_98
      · have tc_524 : (I 194 this_scanner).toInt ≤ 28 := Int32.le_iff_toInt_le.mp (nlt c_304)
        have h_525 : rg (I 194 this_scanner) 25 28 := rg_le1 (nlt c_304) h_303 (rg_k (28 : Int32) 28 rfl) (by decide)
        have uh_525 := h_525.1
        have vh_525 := h_525.2
        refine lv_aload_n hx hb dX4_readBehindOne_25 rfl (lv_at hl 1 rfl) ?_
        refine lv_iload_n hx hb dX4_readBehindOne_26 rfl (lv_at hl 0 rfl) ?_
        refine pk_i (va_runS (As := [.int (I 194 this_scanner)]) (rest := [.ref this]) ⟨hx, hb, hml, hown, hts⟩ (s_X4_rank l D t σ I_1 J ri rj rq H.size tg hSH hG.1 (I 194 this_scanner)) (va_cwS 1 hts (tw_S tw_790 tw_791 tw_25 tw_792) rfl rfl rfl cd_yX4_rank_1 ⟨Nat.le_of_ble_eq_true rfl, Nat.le_of_ble_eq_true rfl⟩) ⟨pq_blind, pq_pre hK hN hP hD⟩ rfl rfl hl.1 rfl (lv_room (Nat.le_of_ble_eq_true rfl)) dX4_readBehindOne_27 ⟨Nat.le_of_ble_eq_true rfl, Nat.le_of_ble_eq_true rfl⟩) hD hS hA (fun x_526 σ1 μ1 H locs hw_527 hP hD hS => ?_)
        obtain ⟨hu_528, hr_530⟩ := hw_527
        obtain ⟨hu_528a, hu_528b⟩ := Prod.mk.inj hu_528
        rw [hu_528a, hu_528b] at hP hD
        refine pk_v (va_runV (As := [.int x_526]) (rest := []) ⟨hx, hb, hml, hown, hts⟩ (s_X4_settle l D t σ I_1 J ri rj rq H.size tg hSH hG.1 this x_526 hL_this hK_this) (cwV 1 hts (tw_V tw_793 tw_794 tw_795 tw_25 tw_796) rfl rfl rfl cv_yX4_settle_1 ⟨Nat.le_of_ble_eq_true rfl, Nat.le_of_ble_eq_true rfl⟩) ⟨pq_blind, pq_recv hK hP hL_this hK_this (by decide) rfl, pq_pre hK hN hP hD⟩ rfl rfl hl.1 rfl (lv_room (Nat.le_of_ble_eq_true rfl)) dX4_readBehindOne_30 ⟨Nat.le_of_ble_eq_true rfl, Nat.le_of_ble_eq_true rfl⟩) hD hS hA (fun σ1 μ1 H locs hw_532 hP hD hS => ?_)
        obtain ⟨I_533, ri_534, hu_535, hg_536, hp_538, hp_539⟩ := hw_532
        obtain ⟨hu_535a, hu_535b⟩ := Prod.mk.inj hu_535
        rw [hu_535a, hu_535b] at hP hD
        have tt_540 := hp_538
        have tt_541 := hp_539
        have hG := GX.tr hG hg_536 (by decide)
        have tt_542 : (I_533 129 this).toInt = (I_1 129 this).toInt := by rw [hg_536.2.1 129 (by decide) (by decide)]
        have tt_543 : (I_533 197 this_scanner).toInt = (I_1 197 this_scanner).toInt := by rw [hg_536.2.1 197 (by decide) (by decide)]
        have tt_544 : (I_533 194 this_scanner).toInt = (I_1 194 this_scanner).toInt := by rw [hg_536.2.1 194 (by decide) (by decide)]
        refine lv_aload_n hx hb dX4_readBehindOne_33 rfl (lv_at hl 1 rfl) ?_
        refine lv_iload_n hx hb dX4_readBehindOne_34 rfl (lv_at hl 0 rfl) ?_
        refine pk_v (va_runV (As := [.int (I 194 this_scanner)]) (rest := []) ⟨hx, hb, hml, hown, hts⟩ (s_X4_await l D t σ I_533 J ri_534 rj rq H.size tg hSH hG.1 this (I 194 this_scanner) hL_this hK_this) (cwV 1 hts (tw_V tw_781 tw_782 tw_783 tw_25 tw_784) rfl rfl rfl cv_yX4_await_1 ⟨Nat.le_of_ble_eq_true rfl, Nat.le_of_ble_eq_true rfl⟩) ⟨pq_blind, pq_recv hK hP hL_this hK_this (by decide) rfl, pq_pre hK hN hP hD⟩ rfl rfl hl.1 rfl (lv_room (Nat.le_of_ble_eq_true rfl)) dX4_readBehindOne_35 ⟨Nat.le_of_ble_eq_true rfl, Nat.le_of_ble_eq_true rfl⟩) hD hS hA (fun σ1 μ1 H locs hw_546 hP hD hS => ?_)
        obtain ⟨I_547, ri_548, hu_549, hg_550, hp_552, hp_553⟩ := hw_546
        obtain ⟨hu_549a, hu_549b⟩ := Prod.mk.inj hu_549
        rw [hu_549a, hu_549b] at hP hD
        have tt_554 := hp_552
        have tt_555 := hp_553
        have hG := GX.tr hG hg_550 (by decide)
        have tt_556 : (I_547 132 this).toInt = (I_533 132 this).toInt := by rw [hg_550.2.1 132 (by decide) (by decide)]
        have tt_557 : (I_547 129 this).toInt = (I_533 129 this).toInt := by rw [hg_550.2.1 129 (by decide) (by decide)]
        have tt_558 : (I_547 197 this_scanner).toInt = (I_533 197 this_scanner).toInt := by rw [hg_550.2.1 197 (by decide) (by decide)]
        have tt_559 : (I_547 194 this_scanner).toInt = (I_533 194 this_scanner).toInt := by rw [hg_550.2.1 194 (by decide) (by decide)]
        refine lv_iconst (v := 1) hx hb dX4_readBehindOne_38 (by decide) ?_
        subst hQ
        exact W.zret (v := 1) hx hb hr (by decide) (fun t1 ht hW => ⟨⟨1, (σ, I_547, J, ri_548, rj, rq), rfl, ⟨I_547, ri_548, rfl, hG, (by omega), (ft_t (ft_t (fun _ _ => rfl) hp_539) hp_553), (Or.inl ⟨rfl, trivial⟩)⟩, by rw [ht]; exact hP, va_K.moved hW.alike hK, hD⟩, hS.F ht⟩) hS.2.2 dX4_readBehindOne_39
  exact go _ _ _ hP hD hS hl

set_option maxHeartbeats 4000000 in
set_option maxRecDepth 100000 in
theorem s_X4_readEither (l : Launch) (D : va_G) (t : pq_T) (σ : pq_S) (I : Nat → Nat → Int32) (J : Nat → Nat → Int64) (ri : Nat → Nat → Int32) (rj : Nat → Nat → Int64) (rq : Nat → Nat → Option Nat) (sz : Nat) (aK aV : Nat) (vF : Value) (tg : Nat → Nat) (hSH : SH σ tg) (hG0 : GS tg σ I ri rq) (this : Nat) (hL_this : this ∈ σ.1) (hK_this : σ.2.1 this = 4) (this_scanner : Nat) (hR_this_scanner : σ.2.2.1 128 this = some this_scanner) (hL_this_scanner : this_scanner ∈ σ.1) (hK_this_scanner : σ.2.1 this_scanner = 6) (hca : (I 132 this).toInt ≤ (I 197 this_scanner).toInt) : MetVS aK aV vF l yX4_readEither (wa yX4_readEither cX4_readEither 3 none) ({ frames := 6, cells := 0, slots := 0, locals := 129 }) [.ref this] D t σ (I, J, ri, rj, rq) sz 0 0 (fun (u : pq_S × pq_M) => ∃ I' : Nat → Nat → Int32, ∃ ri' : Nat → Nat → Int32, u = (σ, I', J, ri', rj, rq) ∧ GX [134, 197, 194, 129, 132] tg σ I ri rj I' ri' rj rq ∧ ((I' 132 this).toInt ≤ (I' 197 this_scanner).toInt) ∧ (∀ q, tg q = 258 → ri' q = ri q)) := by
  refine Met.ofW (cc := cX4_readEither) (maxL := 3) (ret := none) (by decide) rfl ?_
  intro p e s m args below meth c s₁ B hml hv
  obtain ⟨rfl, ⟨hsz, hP, hK, hD0, hN⟩, hW0⟩ := hv
  have hx := B.exec
  have hb := B.bytes
  have hr := B.returns
  have hts := atoms_spec (ws := (wa yX4_readEither cX4_readEither 3 none)) B.pre
  have hown : s.vm.findClass RX4 = some m.cls := findClass_of_methodNamed B.named
  have hlocks := B.notSynchronized
  subst hsz
  have hD : va_D (pq_B t σ (I, J, ri, rj, rq) s.heap.size) (pq_P t σ (I, J, ri, rj, rq)) := hD0.self
  generalize hAe : pq_B t σ (I, J, ri, rj, rq) s.heap.size = A at hD hW0 ⊢
  have hA : ∀ q : Nat, s.heap.size ≤ q → A q := fun q h => by rw [← hAe]; exact Or.inr h
  have hS : va_S A s.heap s.heap [] := va_S.rf
  have hG : GX [134, 197, 194, 129, 132] tg σ I ri rj I ri rj rq := ⟨hG0, fun _ _ _ => rfl, fun _ _ _ _ _ => rfl, fun _ _ _ _ _ => rfl⟩
  have hl := lv_entry ([.ref this]) (n := 3) (Nat.le_of_ble_eq_true rfl)
  rw [lg_entry_eq]
  generalize (lg_sl ([.ref this]) ++ List.replicate (3 - (lg_sl ([.ref this])).length) Slot.unset).toArray = ls at hl ⊢
  have hl : lv_has ls 3 [(0, .ref this)] := hl
  refine q_gen (fun Q hQ => ?_)
  have go : ∀ (H : Heap) (locs : List Loc) (ls : Array Slot), va_P D vwCl (pq_P t σ (I, J, ri, rj, rq)) H → va_D A (pq_P t σ (I, J, ri, rj, rq)) → va_S A s.heap H locs → lv_has ls 3 [(0, .ref this)] → W p l e ({ frames := 6, cells := 0, slots := 0, locals := 129 } : Room) s m (List.toArray ([.ref this] : List Value)) below meth c H locs 0 0 Q (F0 m 0 ls []) := by
    intro H locs ls hP hD hS hl
    refine lv_aload_n hx hb dX4_readEither_0 rfl (lv_at hl 0 rfl) ?_
    refine lv_iconst (v := 0) hx hb dX4_readEither_1 (by decide) ?_
    refine pp_i (v := 0) (ty := .int) (C := RX4) (T := TX4) (N := 12) hx hb hts (tw_i inlX4) tyX4 tyX4_ok nmX4 hown hK hP hD hS hL_this hK_this (by decide) rfl 6 134 (by decide) (hts _ (tw_c tw_758)) rfl (tyX4_ok 6 (by decide)) rfl rfl (Nat.le_of_ble_eq_true rfl) (ps_134 _ _ _ _ _) dX4_readEither_2 (fun I_1 H locs eI_1 hP hD hS => ?_)
    have hG := GX.wI hG 134 rfl eI_1 (rg_w (rg_k (0 : Int32) 0 rfl) (by decide)) (by decide)
    have tt_2 : (I_1 132 this).toInt = (I 132 this).toInt := by rw [eI_1, pq_uf _ _ _ (by decide)]
    have tt_3 : (I_1 134 this).toInt = 0 := by rw [eI_1, pq_us]; rfl
    have tt_4 : (I_1 129 this).toInt = (I 129 this).toInt := by rw [eI_1, pq_uf _ _ _ (by decide)]
    have tt_5 : (I_1 197 this_scanner).toInt = (I 197 this_scanner).toInt := by rw [eI_1, pq_uf _ _ _ (by decide)]
    have tt_6 : (I_1 194 this_scanner).toInt = (I 194 this_scanner).toInt := by rw [eI_1, pq_uf _ _ _ (by decide)]
    refine lv_aload_n hx hb dX4_readEither_5 rfl (lv_at hl 0 rfl) ?_
    refine lv_iconst (v := 0) hx hb dX4_readEither_6 (by decide) ?_
    refine pp_i (v := 0) (ty := .int) (C := RX4) (T := TX4) (N := 12) hx hb hts (tw_i inlX4) tyX4 tyX4_ok nmX4 hown hK hP hD hS hL_this hK_this (by decide) rfl 7 135 (by decide) (hts _ (tw_c tw_759)) rfl (tyX4_ok 7 (by decide)) rfl rfl (Nat.le_of_ble_eq_true rfl) (ps_135 _ _ _ _ _) dX4_readEither_7 (fun I_7 H locs eI_7 hP hD hS => ?_)
    have hG := GX.wI hG 135 rfl eI_7 (rg_w (rg_k (0 : Int32) 0 rfl) (by decide)) (by decide)
    have tt_8 : (I_7 132 this).toInt = (I_1 132 this).toInt := by rw [eI_7, pq_uf _ _ _ (by decide)]
    have tt_9 : (I_7 134 this).toInt = (I_1 134 this).toInt := by rw [eI_7, pq_uf _ _ _ (by decide)]
    have tt_10 : (I_7 129 this).toInt = (I_1 129 this).toInt := by rw [eI_7, pq_uf _ _ _ (by decide)]
    have tt_11 : (I_7 197 this_scanner).toInt = (I_1 197 this_scanner).toInt := by rw [eI_7, pq_uf _ _ _ (by decide)]
    have tt_12 : (I_7 194 this_scanner).toInt = (I_1 194 this_scanner).toInt := by rw [eI_7, pq_uf _ _ _ (by decide)]
    refine lv_aload_n hx hb dX4_readEither_10 rfl (lv_at hl 0 rfl) ?_
    refine lv_iconst (v := 0) hx hb dX4_readEither_11 (by decide) ?_
    refine pp_i (v := 0) (ty := .int) (C := RX4) (T := TX4) (N := 12) hx hb hts (tw_i inlX4) tyX4 tyX4_ok nmX4 hown hK hP hD hS hL_this hK_this (by decide) rfl 8 136 (by decide) (hts _ (tw_c tw_760)) rfl (tyX4_ok 8 (by decide)) rfl rfl (Nat.le_of_ble_eq_true rfl) (ps_136 _ _ _ _ _) dX4_readEither_12 (fun I_13 H locs eI_13 hP hD hS => ?_)
    have hG := GX.wI hG 136 rfl eI_13 (rg_w (rg_k (0 : Int32) 0 rfl) (by decide)) (by decide)
    have tt_14 : (I_13 132 this).toInt = (I_7 132 this).toInt := by rw [eI_13, pq_uf _ _ _ (by decide)]
    have tt_15 : (I_13 134 this).toInt = (I_7 134 this).toInt := by rw [eI_13, pq_uf _ _ _ (by decide)]
    have tt_16 : (I_13 129 this).toInt = (I_7 129 this).toInt := by rw [eI_13, pq_uf _ _ _ (by decide)]
    have tt_17 : (I_13 197 this_scanner).toInt = (I_7 197 this_scanner).toInt := by rw [eI_13, pq_uf _ _ _ (by decide)]
    have tt_18 : (I_13 194 this_scanner).toInt = (I_7 194 this_scanner).toInt := by rw [eI_13, pq_uf _ _ _ (by decide)]
    refine lv_aload_n hx hb dX4_readEither_15 rfl (lv_at hl 0 rfl) ?_
    refine lv_iconst (v := 1) hx hb dX4_readEither_16 (by decide) ?_
    refine pp_i (v := 1) (ty := .boolean) (C := RX4) (T := TX4) (N := 12) hx hb hts (tw_i inlX4) tyX4 tyX4_ok nmX4 hown hK hP hD hS hL_this hK_this (by decide) rfl 9 137 (by decide) (hts _ (tw_c tw_761)) rfl (tyX4_ok 9 (by decide)) rfl (by decide) (Nat.le_of_ble_eq_true rfl) (ps_137 _ _ _ _ _) dX4_readEither_17 (fun I_19 H locs eI_19 hP hD hS => ?_)
    have hG := GX.wI hG 137 rfl eI_19 (rg_w (rg_k (1 : Int32) 1 rfl) (by decide)) (by decide)
    have tt_20 : (I_19 132 this).toInt = (I_13 132 this).toInt := by rw [eI_19, pq_uf _ _ _ (by decide)]
    have tt_21 : (I_19 134 this).toInt = (I_13 134 this).toInt := by rw [eI_19, pq_uf _ _ _ (by decide)]
    have tt_22 : (I_19 129 this).toInt = (I_13 129 this).toInt := by rw [eI_19, pq_uf _ _ _ (by decide)]
    have tt_23 : (I_19 197 this_scanner).toInt = (I_13 197 this_scanner).toInt := by rw [eI_19, pq_uf _ _ _ (by decide)]
    have tt_24 : (I_19 194 this_scanner).toInt = (I_13 194 this_scanner).toInt := by rw [eI_19, pq_uf _ _ _ (by decide)]
    refine lv_aload_n hx hb dX4_readEither_20 rfl (lv_at hl 0 rfl) ?_
    refine lv_iconst (v := 0) hx hb dX4_readEither_21 (by decide) ?_
    refine pp_i (v := 0) (ty := .boolean) (C := RX4) (T := TX4) (N := 12) hx hb hts (tw_i inlX4) tyX4 tyX4_ok nmX4 hown hK hP hD hS hL_this hK_this (by decide) rfl 10 138 (by decide) (hts _ (tw_c tw_762)) rfl (tyX4_ok 10 (by decide)) rfl (by decide) (Nat.le_of_ble_eq_true rfl) (ps_138 _ _ _ _ _) dX4_readEither_22 (fun I_25 H locs eI_25 hP hD hS => ?_)
    have hG := GX.wI hG 138 rfl eI_25 (rg_w (rg_k (0 : Int32) 0 rfl) (by decide)) (by decide)
    have tt_26 : (I_25 132 this).toInt = (I_19 132 this).toInt := by rw [eI_25, pq_uf _ _ _ (by decide)]
    have tt_27 : (I_25 134 this).toInt = (I_19 134 this).toInt := by rw [eI_25, pq_uf _ _ _ (by decide)]
    have tt_28 : (I_25 129 this).toInt = (I_19 129 this).toInt := by rw [eI_25, pq_uf _ _ _ (by decide)]
    have tt_29 : (I_25 197 this_scanner).toInt = (I_19 197 this_scanner).toInt := by rw [eI_25, pq_uf _ _ _ (by decide)]
    have tt_30 : (I_25 194 this_scanner).toInt = (I_19 194 this_scanner).toInt := by rw [eI_25, pq_uf _ _ _ (by decide)]
    refine lv_aload_n hx hb dX4_readEither_25 rfl (lv_at hl 0 rfl) ?_
    refine lv_iconst (v := 0) hx hb dX4_readEither_26 (by decide) ?_
    refine pp_i (v := 0) (ty := .boolean) (C := RX4) (T := TX4) (N := 12) hx hb hts (tw_i inlX4) tyX4 tyX4_ok nmX4 hown hK hP hD hS hL_this hK_this (by decide) rfl 11 139 (by decide) (hts _ (tw_c tw_763)) rfl (tyX4_ok 11 (by decide)) rfl (by decide) (Nat.le_of_ble_eq_true rfl) (ps_139 _ _ _ _ _) dX4_readEither_27 (fun I_31 H locs eI_31 hP hD hS => ?_)
    have hG := GX.wI hG 139 rfl eI_31 (rg_w (rg_k (0 : Int32) 0 rfl) (by decide)) (by decide)
    have tt_32 : (I_31 132 this).toInt = (I_25 132 this).toInt := by rw [eI_31, pq_uf _ _ _ (by decide)]
    have tt_33 : (I_31 134 this).toInt = (I_25 134 this).toInt := by rw [eI_31, pq_uf _ _ _ (by decide)]
    have tt_34 : (I_31 129 this).toInt = (I_25 129 this).toInt := by rw [eI_31, pq_uf _ _ _ (by decide)]
    have tt_35 : (I_31 197 this_scanner).toInt = (I_25 197 this_scanner).toInt := by rw [eI_31, pq_uf _ _ _ (by decide)]
    have tt_36 : (I_31 194 this_scanner).toInt = (I_25 194 this_scanner).toInt := by rw [eI_31, pq_uf _ _ _ (by decide)]
    refine lv_iconst (v := 1) hx hb dX4_readEither_30 (by decide) ?_
    refine lv_istore_n (lv' := [(1, .int 1), (0, .ref this)]) hx hb dX4_readEither_31 rfl hl (by decide) rfl (fun ls hl => ?_)
    refine lv_iconst (v := 0) hx hb dX4_readEither_32 (by decide) ?_
    refine lv_istore_n (lv' := [(2, .int 0), (1, .int 1), (0, .ref this)]) hx hb dX4_readEither_33 rfl hl (by decide) rfl (fun ls hl => ?_)
    have L_1416 : ∀ (n_1415 : Nat) (x_1341 : Int32) (x_1342 : Int32) (I_1343 : Nat → Nat → Int32) (ri_1344 : Nat → Nat → Int32) (H : Heap) (locs : List Loc) (ls : Array Slot), rg x_1341 0 1 → rg x_1342 0 301 → ((I_1343 132 this).toInt + (I_1343 134 this).toInt ≤ (I_1343 197 this_scanner).toInt) → (∀ q, tg q = 258 → ri_1344 q = ri q) → (301 - (x_1342).toInt).toNat < n_1415 → GX [134, 197, 194, 129, 132] tg σ I ri rj I_1343 ri_1344 rj rq → va_P D vwCl (pq_P t σ (I_1343, J, ri_1344, rj, rq)) H → va_D A (pq_P t σ (I_1343, J, ri_1344, rj, rq)) → va_S A s.heap H locs → lv_has ls 3 [(0, .ref this), (1, .int x_1341), (2, .int x_1342)] → W p l e ({ frames := 6, cells := 0, slots := 0, locals := 129 } : Room) s m (List.toArray ([.ref this] : List Value)) below meth c H locs 0 0 Q (F0 m 34 ls []) := by
      intro n_1415
      induction n_1415 with
      | zero => intro x_1341 x_1342 I_1343 ri_1344 H locs ls h_1422 h_1423 hrel_1424 hrel_1425 hm_1414 hG hP hD hS hl; exact absurd hm_1414 (Nat.not_lt_zero _)
      | succ n_1415 ih_1417 =>
        intro x_1341 x_1342 I_1343 ri_1344 H locs ls h_1422 h_1423 hrel_1424 hrel_1425 hm_1414 hG hP hD hS hl
        have uh_1422 := h_1422.1
        have vh_1422 := h_1422.2
        have uh_1423 := h_1423.1
        have vh_1423 := h_1423.2
        refine lv_iload_n hx hb dX4_readEither_34 rfl (lv_at hl 2 rfl) ?_
        refine lv_sipush (v := 300) hx hb dX4_readEither_35 (by decide) ?_
        refine lv_icmp_gt (tgt := 84) hx hb dX4_readEither_38 (by decide) (fun c_1426 => ?_) (fun c_1426 => ?_)
        · have tc_1427 : 300 < (x_1342).toInt := Int32.lt_iff_toInt_lt.mp c_1426
          have h_1428 : rg x_1342 301 301 := rg_lt2 c_1426 (rg_k (300 : Int32) 300 rfl) h_1423 (by decide)
          have uh_1428 := h_1428.1
          have vh_1428 := h_1428.2
          subst hQ
          exact W.vret hx hb hr (fun t1 ht hW => ⟨⟨(σ, I_1343, J, ri_1344, rj, rq), rfl, ⟨I_1343, ri_1344, rfl, hG, (by have z0 := (GX.rI hG 134 (a := this) (lo := 0) (hi := 40) rfl).1; omega), hrel_1425⟩, by rw [ht]; exact hP, va_K.moved hW.alike hK, hD⟩, hS.F ht⟩) hS.2.2 dX4_readEither_84
        · have tc_1429 : (x_1342).toInt ≤ 300 := Int32.le_iff_toInt_le.mp (nlt c_1426)
          have h_1430 : rg x_1342 0 300 := rg_le1 (nlt c_1426) h_1423 (rg_k (300 : Int32) 300 rfl) (by decide)
          have uh_1430 := h_1430.1
          have vh_1430 := h_1430.2
          refine lv_aload_n hx hb dX4_readEither_41 rfl (lv_at hl 0 rfl) ?_
          refine pg_f (v := .int (I_1343 129 this)) (C := RX4) (T := TX4) (N := 12) hx hb hts (tw_i inlX4) hown hK hP hL_this hK_this (by decide) rfl 1 (by decide) (hts _ (tw_c tw_155)) rfl dX4_readEither_42 ?_
          refine lv_if_ne (tgt := 84) hx hb dX4_readEither_45 (by decide) (fun c_1431 => ?_) (fun c_1431 => ?_)
          · have tc_1432 : (I_1343 129 this).toInt ≠ 0 := fun q => c_1431 (Int32.toInt_inj.mp q)
            subst hQ
            exact W.vret hx hb hr (fun t1 ht hW => ⟨⟨(σ, I_1343, J, ri_1344, rj, rq), rfl, ⟨I_1343, ri_1344, rfl, hG, (by have z0 := (GX.rI hG 134 (a := this) (lo := 0) (hi := 40) rfl).1; omega), hrel_1425⟩, by rw [ht]; exact hP, va_K.moved hW.alike hK, hD⟩, hS.F ht⟩) hS.2.2 dX4_readEither_84
          · have tc_1433 : (I_1343 129 this).toInt = 0 := congrArg Int32.toInt c_1431
            have h_1434 : rg (I_1343 129 this) 0 0 := rg_and (rg_full _) (rg_of_eq c_1431 (rg_k (0 : Int32) 0 rfl)) (by decide)
            have uh_1434 := h_1434.1
            have vh_1434 := h_1434.2
            refine lv_aload_n hx hb dX4_readEither_48 rfl (lv_at hl 0 rfl) ?_
            refine pg_f (v := .int (I_1343 139 this)) (C := RX4) (T := TX4) (N := 12) hx hb hts (tw_i inlX4) hown hK hP hL_this hK_this (by decide) rfl 11 (by decide) (hts _ (tw_c tw_763)) rfl dX4_readEither_49 ?_
            have h_1435 : rg (I_1343 139 this) 0 1 := GX.rI hG 139 rfl
            have uh_1435 := h_1435.1
            have vh_1435 := h_1435.2
            refine lv_if_ne (tgt := 84) hx hb dX4_readEither_52 (by decide) (fun c_1436 => ?_) (fun c_1436 => ?_)
            · have tc_1437 : (I_1343 139 this).toInt ≠ 0 := fun q => c_1436 (Int32.toInt_inj.mp q)
              have h_1438 : rg (I_1343 139 this) 1 1 := rg_ne c_1436 h_1435 0 rfl (by decide)
              have uh_1438 := h_1438.1
              have vh_1438 := h_1438.2
              subst hQ
              exact W.vret hx hb hr (fun t1 ht hW => ⟨⟨(σ, I_1343, J, ri_1344, rj, rq), rfl, ⟨I_1343, ri_1344, rfl, hG, (by have z0 := (GX.rI hG 134 (a := this) (lo := 0) (hi := 40) rfl).1; omega), hrel_1425⟩, by rw [ht]; exact hP, va_K.moved hW.alike hK, hD⟩, hS.F ht⟩) hS.2.2 dX4_readEither_84
            · have tc_1439 : (I_1343 139 this).toInt = 0 := congrArg Int32.toInt c_1436
              have h_1440 : rg (I_1343 139 this) 0 0 := rg_and h_1435 (rg_of_eq c_1436 (rg_k (0 : Int32) 0 rfl)) (by decide)
              have uh_1440 := h_1440.1
              have vh_1440 := h_1440.2
              refine lv_aload_n hx hb dX4_readEither_55 rfl (lv_at hl 0 rfl) ?_
              refine pg_f (v := .ref this_scanner) (C := RX4) (T := TX4) (N := 12) hx hb hts (tw_i inlX4) hown hK hP hL_this hK_this (by decide) rfl 0 (by decide) (hts _ (tw_c tw_154)) (pq_hv rfl hR_this_scanner) dX4_readEither_56 ?_
              refine pk_v (va_runV (As := []) (rest := []) ⟨hx, hb, hml, hown, hts⟩ (s_X6_advance l D t σ I_1343 J ri_1344 rj rq H.size aK aV vF tg hSH hG.1 this_scanner hL_this_scanner hK_this_scanner) (cwV 0 hts (tw_V tw_663 tw_664 tw_665 tw_153 tw_666) rfl rfl rfl cv_yX6_advance_0 ⟨Nat.le_of_ble_eq_true rfl, Nat.le_of_ble_eq_true rfl⟩) ⟨pq_blindS, pq_recv hK hP hL_this_scanner hK_this_scanner (by decide) rfl, pq_preS hK hN hP hD hS hA hW0⟩ rfl rfl hl.1 rfl (lv_room (Nat.le_of_ble_eq_true rfl)) dX4_readEither_59 ⟨Nat.le_of_ble_eq_true rfl, Nat.le_of_ble_eq_true rfl⟩) hD hS hA (fun σ1 μ1 H locs hw_1442 hP hD hS => ?_)
              obtain ⟨I_1443, hu_1444, hg_1445, hp_1447, hp_1448⟩ := hw_1442
              obtain ⟨hu_1444a, hu_1444b⟩ := Prod.mk.inj hu_1444
              rw [hu_1444a, hu_1444b] at hP hD
              have tt_1449 := hp_1447
              have tt_1450 := hp_1448
              have hG := GX.tr hG hg_1445 (by decide)
              have tt_1451 : (I_1443 132 this).toInt = (I_1343 132 this).toInt := by rw [hg_1445.2.1 132 (by decide) (by decide)]
              have tt_1452 : (I_1443 134 this).toInt = (I_1343 134 this).toInt := by rw [hg_1445.2.1 134 (by decide) (by decide)]
              have tt_1453 : (I_1443 129 this).toInt = (I_1343 129 this).toInt := by rw [hg_1445.2.1 129 (by decide) (by decide)]
              refine lv_iload_n hx hb dX4_readEither_62 rfl (lv_at hl 1 rfl) ?_
              refine lv_if_eq (tgt := 73) hx hb dX4_readEither_63 (by decide) (fun c_1454 => ?_) (fun c_1454 => ?_)
              · have tc_1455 : (x_1341).toInt = 0 := congrArg Int32.toInt c_1454
                have h_1456 : rg x_1341 0 0 := rg_and h_1422 (rg_of_eq c_1454 (rg_k (0 : Int32) 0 rfl)) (by decide)
                have uh_1456 := h_1456.1
                have vh_1456 := h_1456.2
                refine lv_aload_n hx hb dX4_readEither_73 rfl (lv_at hl 0 rfl) ?_
                refine pk_i (va_runV (As := []) (rest := []) ⟨hx, hb, hml, hown, hts⟩ (s_X4_readBehindOne l D t σ I_1443 J ri_1344 rj rq H.size tg hSH hG.1 this hL_this hK_this this_scanner hR_this_scanner hL_this_scanner hK_this_scanner) (cwV 0 hts (tw_V tw_785 tw_786 tw_787 tw_25 tw_788) rfl rfl rfl cv_yX4_readBehindOne_0 ⟨Nat.le_of_ble_eq_true rfl, Nat.le_of_ble_eq_true rfl⟩) ⟨pq_blind, pq_recv hK hP hL_this hK_this (by decide) rfl, pq_pre hK hN hP hD⟩ rfl rfl hl.1 rfl (lv_room (Nat.le_of_ble_eq_true rfl)) dX4_readEither_74 ⟨Nat.le_of_ble_eq_true rfl, Nat.le_of_ble_eq_true rfl⟩) hD hS hA (fun x_1457 σ1 μ1 H locs hw_1458 hP hD hS => ?_)
                obtain ⟨I_1459, ri_1460, hu_1461, hg_1462, hp_1464, hp_1465, hr_1463⟩ := hw_1458
                obtain ⟨hu_1461a, hu_1461b⟩ := Prod.mk.inj hu_1461
                rw [hu_1461a, hu_1461b] at hP hD
                have tt_1466 := hp_1464
                have tt_1467 := hp_1465
                have hG := GX.tr hG hg_1462 (by decide)
                have tt_1468 : (I_1459 197 this_scanner).toInt = (I_1443 197 this_scanner).toInt := by rw [hg_1462.2.1 197 (by decide) (by decide)]
                have tt_1469 : (I_1459 194 this_scanner).toInt = (I_1443 194 this_scanner).toInt := by rw [hg_1462.2.1 194 (by decide) (by decide)]
                have h_1470 : rg x_1457 0 1 := by rcases hr_1463 with ⟨q, -⟩ | ⟨q, -⟩ <;> rw [q] <;> exact ⟨by decide, by decide⟩
                have uh_1470 := h_1470.1
                have vh_1470 := h_1470.2
                refine lv_istore_n (lv' := [(1, .int x_1457), (0, .ref this), (2, .int x_1342)]) hx hb dX4_readEither_77 rfl hl (by decide) rfl (fun ls hl => ?_)
                obtain ⟨x_1471, ex_1471⟩ : ∃ y : Int32, y = x_1342 + Int32.ofInt 1 := ⟨_, rfl⟩
                have h_1472 : rg x_1471 1 301 := rg_of_eq ex_1471 (rg_add h_1430 (rg_k (Int32.ofInt 1) 1 rfl) (by decide))
                have uh_1472 := h_1472.1
                have vh_1472 := h_1472.2
                have tx_1471 : (x_1471).toInt = (x_1342).toInt + 1 := by rw [ex_1471]; exact i_add_rg (a2 := (x_1342).toInt) (b2 := 1) rfl rfl h_1430 (rg_k (Int32.ofInt 1) 1 rfl) (by decide)
                refine lv_iinc (v := x_1471) (lv' := [(2, .int x_1471), (1, .int x_1457), (0, .ref this)]) hx hb dX4_readEither_78 hl (k := 2) rfl ex_1471.symm (by decide) rfl (fun ls hl => ?_)
                refine lv_goto (tgt := 34) hx hb dX4_readEither_81 (by decide) ?_
                exact ih_1417 x_1457 x_1471 I_1459 ri_1460 _ _ _ (rg_w h_1470 (by decide)) (rg_w h_1472 (by decide)) (by omega) (ft_t hrel_1425 hp_1465) (ms_up 1 hm_1414 ex_1471 rfl (by decide) h_1430 (by decide) (by decide)) hG hP hD hS (lv_sub hl [2, 1, 0] rfl)
              · have tc_1473 : (x_1341).toInt ≠ 0 := fun q => c_1454 (Int32.toInt_inj.mp q)
                have h_1474 : rg x_1341 1 1 := rg_ne c_1454 h_1422 0 rfl (by decide)
                have uh_1474 := h_1474.1
                have vh_1474 := h_1474.2
                refine lv_aload_n hx hb dX4_readEither_66 rfl (lv_at hl 0 rfl) ?_
                refine pk_i (va_runV (As := []) (rest := []) ⟨hx, hb, hml, hown, hts⟩ (s_X4_readOne l D t σ I_1443 J ri_1344 rj rq H.size tg hSH hG.1 this hL_this hK_this this_scanner hR_this_scanner hL_this_scanner hK_this_scanner) (cwV 0 hts (tw_V tw_764 tw_765 tw_766 tw_25 tw_767) rfl rfl rfl cv_yX4_readOne_0 ⟨Nat.le_of_ble_eq_true rfl, Nat.le_of_ble_eq_true rfl⟩) ⟨pq_blind, pq_recv hK hP hL_this hK_this (by decide) rfl, pq_pre hK hN hP hD⟩ rfl rfl hl.1 rfl (lv_room (Nat.le_of_ble_eq_true rfl)) dX4_readEither_67 ⟨Nat.le_of_ble_eq_true rfl, Nat.le_of_ble_eq_true rfl⟩) hD hS hA (fun x_1475 σ1 μ1 H locs hw_1476 hP hD hS => ?_)
                obtain ⟨I_1477, ri_1478, hu_1479, hg_1480, hp_1482, hp_1483, hr_1481⟩ := hw_1476
                obtain ⟨hu_1479a, hu_1479b⟩ := Prod.mk.inj hu_1479
                rw [hu_1479a, hu_1479b] at hP hD
                have tt_1484 := hp_1482
                have tt_1485 := hp_1483
                have hG := GX.tr hG hg_1480 (by decide)
                have tt_1486 : (I_1477 197 this_scanner).toInt = (I_1443 197 this_scanner).toInt := by rw [hg_1480.2.1 197 (by decide) (by decide)]
                have tt_1487 : (I_1477 194 this_scanner).toInt = (I_1443 194 this_scanner).toInt := by rw [hg_1480.2.1 194 (by decide) (by decide)]
                have h_1488 : rg x_1475 0 1 := by rcases hr_1481 with ⟨q, -⟩ | ⟨q, -⟩ <;> rw [q] <;> exact ⟨by decide, by decide⟩
                have uh_1488 := h_1488.1
                have vh_1488 := h_1488.2
                refine lv_goto (tgt := 77) hx hb dX4_readEither_70 (by decide) ?_
                refine lv_istore_n (lv' := [(1, .int x_1475), (0, .ref this), (2, .int x_1342)]) hx hb dX4_readEither_77 rfl hl (by decide) rfl (fun ls hl => ?_)
                obtain ⟨x_1489, ex_1489⟩ : ∃ y : Int32, y = x_1342 + Int32.ofInt 1 := ⟨_, rfl⟩
                have h_1490 : rg x_1489 1 301 := rg_of_eq ex_1489 (rg_add h_1430 (rg_k (Int32.ofInt 1) 1 rfl) (by decide))
                have uh_1490 := h_1490.1
                have vh_1490 := h_1490.2
                have tx_1489 : (x_1489).toInt = (x_1342).toInt + 1 := by rw [ex_1489]; exact i_add_rg (a2 := (x_1342).toInt) (b2 := 1) rfl rfl h_1430 (rg_k (Int32.ofInt 1) 1 rfl) (by decide)
                refine lv_iinc (v := x_1489) (lv' := [(2, .int x_1489), (1, .int x_1475), (0, .ref this)]) hx hb dX4_readEither_78 hl (k := 2) rfl ex_1489.symm (by decide) rfl (fun ls hl => ?_)
                refine lv_goto (tgt := 34) hx hb dX4_readEither_81 (by decide) ?_
                exact ih_1417 x_1475 x_1489 I_1477 ri_1478 _ _ _ (rg_w h_1488 (by decide)) (rg_w h_1490 (by decide)) (by omega) (ft_t hrel_1425 hp_1483) (ms_up 1 hm_1414 ex_1489 rfl (by decide) h_1430 (by decide) (by decide)) hG hP hD hS (lv_sub hl [2, 1, 0] rfl)
    exact L_1416 _ (1 : Int32) (0 : Int32) I_31 ri _ _ _ (rg_w (rg_k (1 : Int32) 1 rfl) (by decide)) (rg_w (rg_k (0 : Int32) 0 rfl) (by decide)) (by have k0 : (0 : Int32).toInt = 0 := rfl; have k1 : (1 : Int32).toInt = 1 := rfl; omega) (fun _ _ => rfl) (Nat.lt_succ_self _) hG hP hD hS (lv_sub hl [2, 1, 0] rfl)
  exact go _ _ _ hP hD hS hl

set_option maxHeartbeats 4000000 in
set_option maxRecDepth 100000 in
theorem s_X4_mostOf (l : Launch) (D : va_G) (t : pq_T) (σ : pq_S) (I : Nat → Nat → Int32) (J : Nat → Nat → Int64) (ri : Nat → Nat → Int32) (rj : Nat → Nat → Int64) (rq : Nat → Nat → Option Nat) (sz : Nat) (tg : Nat → Nat) (hSH : SH σ tg) (hG0 : GS tg σ I ri rq) (a0 : Int32) : MetI l yX4_mostOf (wa yX4_mostOf cX4_mostOf 1 (some .int)) ({ frames := 0, cells := 0, slots := 0, locals := 0 }) [.int a0] D t σ (I, J, ri, rj, rq) sz 0 0 (fun (r : Int32) (u : pq_S × pq_M) => u = (σ, I, J, ri, rj, rq) ∧ rg r 100 1000) := by
  refine Met.ofW (cc := cX4_mostOf) (maxL := 1) (ret := (some .int)) (by decide) rfl ?_
  intro p e s m args below meth c s₁ B hml hv
  obtain ⟨rfl, hsz, hP, hK, hD0, hN⟩ := hv
  have hx := B.exec
  have hb := B.bytes
  have hr := B.returns
  have hts := atoms_spec (ws := (wa yX4_mostOf cX4_mostOf 1 (some .int))) B.pre
  have hown : s.vm.findClass RX4 = some m.cls := findClass_of_methodNamed B.named
  have hlocks := B.notSynchronized
  subst hsz
  have hD : va_D (pq_B t σ (I, J, ri, rj, rq) s.heap.size) (pq_P t σ (I, J, ri, rj, rq)) := hD0.self
  generalize hAe : pq_B t σ (I, J, ri, rj, rq) s.heap.size = A at hD ⊢
  have hA : ∀ q : Nat, s.heap.size ≤ q → A q := fun q h => by rw [← hAe]; exact Or.inr h
  have hS : va_S A s.heap s.heap [] := va_S.rf
  have hG : GX [] tg σ I ri rj I ri rj rq := ⟨hG0, fun _ _ _ => rfl, fun _ _ _ _ _ => rfl, fun _ _ _ _ _ => rfl⟩
  have hl := lv_entry ([.int a0]) (n := 1) (Nat.le_of_ble_eq_true rfl)
  rw [lg_entry_eq]
  generalize (lg_sl ([.int a0]) ++ List.replicate (1 - (lg_sl ([.int a0])).length) Slot.unset).toArray = ls at hl ⊢
  have hl : lv_has ls 1 [(0, .int a0)] := hl
  refine q_gen (fun Q hQ => ?_)
  have go : ∀ (H : Heap) (locs : List Loc) (ls : Array Slot), va_P D vwCl (pq_P t σ (I, J, ri, rj, rq)) H → va_D A (pq_P t σ (I, J, ri, rj, rq)) → va_S A s.heap H locs → lv_has ls 1 [(0, .int a0)] → W p l e ({ frames := 0, cells := 0, slots := 0, locals := 0 } : Room) s m (List.toArray ([.int a0] : List Value)) below meth c H locs 0 0 Q (F0 m 0 ls []) := by
    intro H locs ls hP hD hS hl
    refine lv_iload_n hx hb dX4_mostOf_0 rfl (lv_at hl 0 rfl) ?_
    by_cases k_1 : a0 = (6 : Int32)
    · have tc_2 : (a0).toInt = 6 := congrArg Int32.toInt k_1
      have h_3 : rg a0 6 6 := rg_and (rg_full _) (rg_of_eq k_1 (rg_k (6 : Int32) 6 rfl)) (by decide)
      have uh_3 := h_3.1
      have vh_3 := h_3.2
      refine lv_tov 6 k_1 ?_
      refine lv_lookup (tgt := 28) hx hb dX4_mostOf_1 (by decide) rfl (by decide) ?_
      refine lv_bipush (v := 100) hx hb dX4_mostOf_28 (by decide) ?_
      subst hQ
      exact W.iret (v := 100) hx hb hr (fun t1 ht hW => ⟨⟨100, (σ, I, J, ri, rj, rq), rfl, ⟨rfl, (rg_w (rg_k (100 : Int32) 100 rfl) (by decide))⟩, by rw [ht]; exact hP, va_K.moved hW.alike hK, hD⟩, hS.F ht⟩) hS.2.2 dX4_mostOf_30
    by_cases k_4 : a0 = (7 : Int32)
    · have tc_5 : (a0).toInt = 7 := congrArg Int32.toInt k_4
      have h_6 : rg a0 7 7 := rg_and (rg_full _) (rg_of_eq k_4 (rg_k (7 : Int32) 7 rfl)) (by decide)
      have uh_6 := h_6.1
      have vh_6 := h_6.2
      refine lv_tov 7 k_4 ?_
      refine lv_lookup (tgt := 31) hx hb dX4_mostOf_1 (by decide) rfl (by decide) ?_
      refine lv_sipush (v := 599) hx hb dX4_mostOf_31 (by decide) ?_
      subst hQ
      exact W.iret (v := 599) hx hb hr (fun t1 ht hW => ⟨⟨599, (σ, I, J, ri, rj, rq), rfl, ⟨rfl, (rg_w (rg_k (599 : Int32) 599 rfl) (by decide))⟩, by rw [ht]; exact hP, va_K.moved hW.alike hK, hD⟩, hS.F ht⟩) hS.2.2 dX4_mostOf_34
    refine lv_lookup (tgt := 35) (off := (34)) hx hb dX4_mostOf_1 (by decide) (by have z_k_1 := (sw_ne k_1 (n := 6) rfl).symm; have z_k_4 := (sw_ne k_4 (n := 7) rfl).symm; simp [Op.lookupswitch.offset, z_k_1, z_k_4]) (by decide) ?_
    refine lv_sipush (v := 1000) hx hb dX4_mostOf_35 (by decide) ?_
    subst hQ
    exact W.iret (v := 1000) hx hb hr (fun t1 ht hW => ⟨⟨1000, (σ, I, J, ri, rj, rq), rfl, ⟨rfl, (rg_w (rg_k (1000 : Int32) 1000 rfl) (by decide))⟩, by rw [ht]; exact hP, va_K.moved hW.alike hK, hD⟩, hS.F ht⟩) hS.2.2 dX4_mostOf_38
  exact go _ _ _ hP hD hS hl

set_option maxHeartbeats 4000000 in
set_option maxRecDepth 100000 in
theorem s_X4_expectSemicolon (l : Launch) (D : va_G) (t : pq_T) (σ : pq_S) (I : Nat → Nat → Int32) (J : Nat → Nat → Int64) (ri : Nat → Nat → Int32) (rj : Nat → Nat → Int64) (rq : Nat → Nat → Option Nat) (sz : Nat) (tg : Nat → Nat) (hSH : SH σ tg) (hG0 : GS tg σ I ri rq) (this : Nat) (hL_this : this ∈ σ.1) (hK_this : σ.2.1 this = 4) : MetV l yX4_expectSemicolon (wa yX4_expectSemicolon cX4_expectSemicolon 1 none) ({ frames := 1, cells := 0, slots := 0, locals := 21 }) [.ref this] D t σ (I, J, ri, rj, rq) sz 0 0 (fun (u : pq_S × pq_M) => ∃ I' : Nat → Nat → Int32, u = (σ, I', J, ri, rj, rq) ∧ GX [129] tg σ I ri rj I' ri rj rq ∧ ((I' 129 this).toInt = 0 → (I 129 this).toInt = 0)) := by
  refine Met.ofW (cc := cX4_expectSemicolon) (maxL := 1) (ret := none) (by decide) rfl ?_
  intro p e s m args below meth c s₁ B hml hv
  obtain ⟨rfl, hsz, hP, hK, hD0, hN⟩ := hv
  have hx := B.exec
  have hb := B.bytes
  have hr := B.returns
  have hts := atoms_spec (ws := (wa yX4_expectSemicolon cX4_expectSemicolon 1 none)) B.pre
  have hown : s.vm.findClass RX4 = some m.cls := findClass_of_methodNamed B.named
  have hlocks := B.notSynchronized
  subst hsz
  have hD : va_D (pq_B t σ (I, J, ri, rj, rq) s.heap.size) (pq_P t σ (I, J, ri, rj, rq)) := hD0.self
  generalize hAe : pq_B t σ (I, J, ri, rj, rq) s.heap.size = A at hD ⊢
  have hA : ∀ q : Nat, s.heap.size ≤ q → A q := fun q h => by rw [← hAe]; exact Or.inr h
  have hS : va_S A s.heap s.heap [] := va_S.rf
  have hG : GX [129] tg σ I ri rj I ri rj rq := ⟨hG0, fun _ _ _ => rfl, fun _ _ _ _ _ => rfl, fun _ _ _ _ _ => rfl⟩
  have hl := lv_entry ([.ref this]) (n := 1) (Nat.le_of_ble_eq_true rfl)
  rw [lg_entry_eq]
  generalize (lg_sl ([.ref this]) ++ List.replicate (1 - (lg_sl ([.ref this])).length) Slot.unset).toArray = ls at hl ⊢
  have hl : lv_has ls 1 [(0, .ref this)] := hl
  refine q_gen (fun Q hQ => ?_)
  have go : ∀ (H : Heap) (locs : List Loc) (ls : Array Slot), va_P D vwCl (pq_P t σ (I, J, ri, rj, rq)) H → va_D A (pq_P t σ (I, J, ri, rj, rq)) → va_S A s.heap H locs → lv_has ls 1 [(0, .ref this)] → W p l e ({ frames := 1, cells := 0, slots := 0, locals := 21 } : Room) s m (List.toArray ([.ref this] : List Value)) below meth c H locs 0 0 Q (F0 m 0 ls []) := by
    intro H locs ls hP hD hS hl
    refine lv_aload_n hx hb dX4_expectSemicolon_0 rfl (lv_at hl 0 rfl) ?_
    obtain ⟨w_1, hR_w_1, hL_w_1, hK_w_1⟩ := sh_o hSH 128 (ci := 4) (kd := 6) rfl hL_this hK_this
    refine pg_f (v := .ref w_1) (C := RX4) (T := TX4) (N := 12) hx hb hts (tw_i inlX4) hown hK hP hL_this hK_this (by decide) rfl 0 (by decide) (hts _ (tw_c tw_154)) (pq_hv rfl hR_w_1) dX4_expectSemicolon_1 ?_
    refine pg_f (v := .int (I 194 w_1)) (C := RX6) (T := TX6) (N := 6) hx hb hts (tw_i inlX6) hown hK hP hL_w_1 hK_w_1 (by decide) rfl 2 (by decide) (hts _ (tw_c tw_657)) rfl dX4_expectSemicolon_4 ?_
    refine lv_bipush (v := 32) hx hb dX4_expectSemicolon_7 (by decide) ?_
    refine lv_icmp_eq (tgt := 17) hx hb dX4_expectSemicolon_9 (by decide) (fun c_2 => ?_) (fun c_2 => ?_)
    · have tc_3 : (I 194 w_1).toInt = 32 := congrArg Int32.toInt c_2
      have h_4 : rg (I 194 w_1) 32 32 := rg_and (rg_full _) (rg_of_eq c_2 (rg_k (32 : Int32) 32 rfl)) (by decide)
      have uh_4 := h_4.1
      have vh_4 := h_4.2
      subst hQ
      exact W.vret hx hb hr (fun t1 ht hW => ⟨⟨(σ, I, J, ri, rj, rq), rfl, ⟨I, rfl, hG, (by omega)⟩, by rw [ht]; exact hP, va_K.moved hW.alike hK, hD⟩, hS.F ht⟩) hS.2.2 dX4_expectSemicolon_17
    · have tc_5 : (I 194 w_1).toInt ≠ 32 := fun q => c_2 (Int32.toInt_inj.mp q)
      refine lv_aload_n hx hb dX4_expectSemicolon_12 rfl (lv_at hl 0 rfl) ?_
      refine lv_iconst (v := 1) hx hb dX4_expectSemicolon_13 (by decide) ?_
      refine pk_v (va_runV (As := [.int 1]) (rest := []) ⟨hx, hb, hml, hown, hts⟩ (s_X4_refuse l D t σ I J ri rj rq H.size tg hSH hG.1 this (1 : Int32) hL_this hK_this (rg_w (rg_k (1 : Int32) 1 rfl) (by decide))) (cwV 1 hts (tw_V tw_748 tw_749 tw_750 tw_25 tw_751) rfl rfl rfl cv_yX4_refuse_1 ⟨Nat.le_of_ble_eq_true rfl, Nat.le_of_ble_eq_true rfl⟩) ⟨pq_blind, pq_recv hK hP hL_this hK_this (by decide) rfl, pq_pre hK hN hP hD⟩ rfl rfl hl.1 rfl (lv_room (Nat.le_of_ble_eq_true rfl)) dX4_expectSemicolon_14 ⟨Nat.le_of_ble_eq_true rfl, Nat.le_of_ble_eq_true rfl⟩) hD hS hA (fun σ1 μ1 H locs hw_7 hP hD hS => ?_)
      obtain ⟨I_8, hu_9, hg_10, hp_12⟩ := hw_7
      obtain ⟨hu_9a, hu_9b⟩ := Prod.mk.inj hu_9
      rw [hu_9a, hu_9b] at hP hD
      have tt_13 := hp_12
      have hG := GX.tr hG hg_10 (by decide)
      have tt_14 : (I_8 132 this).toInt = (I 132 this).toInt := by rw [hg_10.2.1 132 (by decide) (by decide)]
      have tt_15 : (I_8 134 this).toInt = (I 134 this).toInt := by rw [hg_10.2.1 134 (by decide) (by decide)]
      subst hQ
      exact W.vret hx hb hr (fun t1 ht hW => ⟨⟨(σ, I_8, J, ri, rj, rq), rfl, ⟨I_8, rfl, hG, (by omega)⟩, by rw [ht]; exact hP, va_K.moved hW.alike hK, hD⟩, hS.F ht⟩) hS.2.2 dX4_expectSemicolon_17
  exact go _ _ _ hP hD hS hl

set_option maxHeartbeats 4000000 in
set_option maxRecDepth 100000 in
theorem s_X4_readNumber (l : Launch) (D : va_G) (t : pq_T) (σ : pq_S) (I : Nat → Nat → Int32) (J : Nat → Nat → Int64) (ri : Nat → Nat → Int32) (rj : Nat → Nat → Int64) (rq : Nat → Nat → Option Nat) (sz : Nat) (aK aV : Nat) (vF : Value) (tg : Nat → Nat) (hSH : SH σ tg) (hG0 : GS tg σ I ri rq) (this : Nat) (a0 : Int32) (hL_this : this ∈ σ.1) (hK_this : σ.2.1 this = 4) (this_scanner : Nat) (hR_this_scanner : σ.2.2.1 128 this = some this_scanner) (hL_this_scanner : this_scanner ∈ σ.1) (hK_this_scanner : σ.2.1 this_scanner = 6) (hca : (I 132 this).toInt ≤ (I 197 this_scanner).toInt) : MetVS aK aV vF l yX4_readNumber (wa yX4_readNumber cX4_readNumber 2 none) ({ frames := 6, cells := 0, slots := 0, locals := 129 }) [.ref this, .int a0] D t σ (I, J, ri, rj, rq) sz 0 0 (fun (u : pq_S × pq_M) => ∃ I' : Nat → Nat → Int32, ∃ ri' : Nat → Nat → Int32, u = (σ, I', J, ri', rj, rq) ∧ GX [197, 194, 132, 129] tg σ I ri rj I' ri' rj rq ∧ ((I' 132 this).toInt ≤ (I' 197 this_scanner).toInt) ∧ (∀ q, tg q = 258 → ri' q = ri q)) := by
  refine Met.ofW (cc := cX4_readNumber) (maxL := 2) (ret := none) (by decide) rfl ?_
  intro p e s m args below meth c s₁ B hml hv
  obtain ⟨rfl, ⟨hsz, hP, hK, hD0, hN⟩, hW0⟩ := hv
  have hx := B.exec
  have hb := B.bytes
  have hr := B.returns
  have hts := atoms_spec (ws := (wa yX4_readNumber cX4_readNumber 2 none)) B.pre
  have hown : s.vm.findClass RX4 = some m.cls := findClass_of_methodNamed B.named
  have hlocks := B.notSynchronized
  subst hsz
  have hD : va_D (pq_B t σ (I, J, ri, rj, rq) s.heap.size) (pq_P t σ (I, J, ri, rj, rq)) := hD0.self
  generalize hAe : pq_B t σ (I, J, ri, rj, rq) s.heap.size = A at hD hW0 ⊢
  have hA : ∀ q : Nat, s.heap.size ≤ q → A q := fun q h => by rw [← hAe]; exact Or.inr h
  have hS : va_S A s.heap s.heap [] := va_S.rf
  have hG : GX [197, 194, 132, 129] tg σ I ri rj I ri rj rq := ⟨hG0, fun _ _ _ => rfl, fun _ _ _ _ _ => rfl, fun _ _ _ _ _ => rfl⟩
  have hl := lv_entry ([.ref this, .int a0]) (n := 2) (Nat.le_of_ble_eq_true rfl)
  rw [lg_entry_eq]
  generalize (lg_sl ([.ref this, .int a0]) ++ List.replicate (2 - (lg_sl ([.ref this, .int a0])).length) Slot.unset).toArray = ls at hl ⊢
  have hl : lv_has ls 2 [(0, .ref this), (1, .int a0)] := hl
  refine q_gen (fun Q hQ => ?_)
  have go : ∀ (H : Heap) (locs : List Loc) (ls : Array Slot), va_P D vwCl (pq_P t σ (I, J, ri, rj, rq)) H → va_D A (pq_P t σ (I, J, ri, rj, rq)) → va_S A s.heap H locs → lv_has ls 2 [(0, .ref this), (1, .int a0)] → W p l e ({ frames := 6, cells := 0, slots := 0, locals := 129 } : Room) s m (List.toArray ([.ref this, .int a0] : List Value)) below meth c H locs 0 0 Q (F0 m 0 ls []) := by
    intro H locs ls hP hD hS hl
    refine lv_aload_n hx hb dX4_readNumber_0 rfl (lv_at hl 0 rfl) ?_
    refine pg_f (v := .ref this_scanner) (C := RX4) (T := TX4) (N := 12) hx hb hts (tw_i inlX4) hown hK hP hL_this hK_this (by decide) rfl 0 (by decide) (hts _ (tw_c tw_154)) (pq_hv rfl hR_this_scanner) dX4_readNumber_1 ?_
    refine pk_v (va_runV (As := []) (rest := []) ⟨hx, hb, hml, hown, hts⟩ (s_X6_advance l D t σ I J ri rj rq H.size aK aV vF tg hSH hG.1 this_scanner hL_this_scanner hK_this_scanner) (cwV 0 hts (tw_V tw_663 tw_664 tw_665 tw_153 tw_666) rfl rfl rfl cv_yX6_advance_0 ⟨Nat.le_of_ble_eq_true rfl, Nat.le_of_ble_eq_true rfl⟩) ⟨pq_blindS, pq_recv hK hP hL_this_scanner hK_this_scanner (by decide) rfl, pq_preS hK hN hP hD hS hA hW0⟩ rfl rfl hl.1 rfl (lv_room (Nat.le_of_ble_eq_true rfl)) dX4_readNumber_4 ⟨Nat.le_of_ble_eq_true rfl, Nat.le_of_ble_eq_true rfl⟩) hD hS hA (fun σ1 μ1 H locs hw_2 hP hD hS => ?_)
    obtain ⟨I_3, hu_4, hg_5, hp_7, hp_8⟩ := hw_2
    obtain ⟨hu_4a, hu_4b⟩ := Prod.mk.inj hu_4
    rw [hu_4a, hu_4b] at hP hD
    have tt_9 := hp_7
    have tt_10 := hp_8
    have hG := GX.tr hG hg_5 (by decide)
    have tt_11 : (I_3 132 this).toInt = (I 132 this).toInt := by rw [hg_5.2.1 132 (by decide) (by decide)]
    have tt_12 : (I_3 134 this).toInt = (I 134 this).toInt := by rw [hg_5.2.1 134 (by decide) (by decide)]
    have tt_13 : (I_3 129 this).toInt = (I 129 this).toInt := by rw [hg_5.2.1 129 (by decide) (by decide)]
    refine lv_aload_n hx hb dX4_readNumber_7 rfl (lv_at hl 0 rfl) ?_
    refine pg_f (v := .ref this_scanner) (C := RX4) (T := TX4) (N := 12) hx hb hts (tw_i inlX4) hown hK hP hL_this hK_this (by decide) rfl 0 (by decide) (hts _ (tw_c tw_154)) (pq_hv rfl hR_this_scanner) dX4_readNumber_8 ?_
    refine pg_f (v := .int (I_3 194 this_scanner)) (C := RX6) (T := TX6) (N := 6) hx hb hts (tw_i inlX6) hown hK hP hL_this_scanner hK_this_scanner (by decide) rfl 2 (by decide) (hts _ (tw_c tw_657)) rfl dX4_readNumber_11 ?_
    refine lv_bipush (v := 18) hx hb dX4_readNumber_14 (by decide) ?_
    refine lv_icmp_eq (tgt := 27) hx hb dX4_readNumber_16 (by decide) (fun c_14 => ?_) (fun c_14 => ?_)
    · have tc_15 : (I_3 194 this_scanner).toInt = 18 := congrArg Int32.toInt c_14
      have h_16 : rg (I_3 194 this_scanner) 18 18 := rg_and (rg_full _) (rg_of_eq c_14 (rg_k (18 : Int32) 18 rfl)) (by decide)
      have uh_16 := h_16.1
      have vh_16 := h_16.2
      refine lv_aload_n hx hb dX4_readNumber_27 rfl (lv_at hl 0 rfl) ?_
      refine pg_f (v := .ref this_scanner) (C := RX4) (T := TX4) (N := 12) hx hb hts (tw_i inlX4) hown hK hP hL_this hK_this (by decide) rfl 0 (by decide) (hts _ (tw_c tw_154)) (pq_hv rfl hR_this_scanner) dX4_readNumber_28 ?_
      refine pg_f (v := .int (I_3 196 this_scanner)) (C := RX6) (T := TX6) (N := 6) hx hb hts (tw_i inlX6) hown hK hP hL_this_scanner hK_this_scanner (by decide) rfl 4 (by decide) (hts _ (tw_c tw_768)) rfl dX4_readNumber_31 ?_
      refine lv_iload_n hx hb dX4_readNumber_34 rfl (lv_at hl 1 rfl) ?_
      refine lv_icmp_le (tgt := 46) hx hb dX4_readNumber_35 (by decide) (fun c_17 => ?_) (fun c_17 => ?_)
      · have tc_18 : (I_3 196 this_scanner).toInt ≤ (a0).toInt := Int32.le_iff_toInt_le.mp c_17
        refine lv_aload_n hx hb dX4_readNumber_46 rfl (lv_at hl 0 rfl) ?_
        refine lv_aload_n hx hb dX4_readNumber_47 rfl (lv_at hl 0 rfl) ?_
        refine pg_f (v := .ref this_scanner) (C := RX4) (T := TX4) (N := 12) hx hb hts (tw_i inlX4) hown hK hP hL_this hK_this (by decide) rfl 0 (by decide) (hts _ (tw_c tw_154)) (pq_hv rfl hR_this_scanner) dX4_readNumber_48 ?_
        refine pg_f (v := .int (I_3 196 this_scanner)) (C := RX6) (T := TX6) (N := 6) hx hb hts (tw_i inlX6) hown hK hP hL_this_scanner hK_this_scanner (by decide) rfl 4 (by decide) (hts _ (tw_c tw_768)) rfl dX4_readNumber_51 ?_
        refine pk_v (va_runV (As := [.int (I_3 196 this_scanner)]) (rest := []) ⟨hx, hb, hml, hown, hts⟩ (s_X4_emit l D t σ I_3 J ri rj rq H.size tg hSH hG.1 this (I_3 196 this_scanner) hL_this hK_this) (cwV 1 hts (tw_V tw_769 tw_770 tw_771 tw_25 tw_772) rfl rfl rfl cv_yX4_emit_1 ⟨Nat.le_of_ble_eq_true rfl, Nat.le_of_ble_eq_true rfl⟩) ⟨pq_blind, pq_recv hK hP hL_this hK_this (by decide) rfl, pq_pre hK hN hP hD⟩ rfl rfl hl.1 rfl (lv_room (Nat.le_of_ble_eq_true rfl)) dX4_readNumber_54 ⟨Nat.le_of_ble_eq_true rfl, Nat.le_of_ble_eq_true rfl⟩) hD hS hA (fun σ1 μ1 H locs hw_20 hP hD hS => ?_)
        obtain ⟨I_21, ri_22, hu_23, hg_24, hp_26, hp_27⟩ := hw_20
        obtain ⟨hu_23a, hu_23b⟩ := Prod.mk.inj hu_23
        rw [hu_23a, hu_23b] at hP hD
        have tt_28 := hp_26
        have tt_29 := hp_27
        have hG := GX.tr hG hg_24 (by decide)
        have tt_30 : (I_21 134 this).toInt = (I_3 134 this).toInt := by rw [hg_24.2.1 134 (by decide) (by decide)]
        have tt_31 : (I_21 129 this).toInt = (I_3 129 this).toInt := by rw [hg_24.2.1 129 (by decide) (by decide)]
        have tt_32 : (I_21 197 this_scanner).toInt = (I_3 197 this_scanner).toInt := by rw [hg_24.2.1 197 (by decide) (by decide)]
        have tt_33 : (I_21 194 this_scanner).toInt = (I_3 194 this_scanner).toInt := by rw [hg_24.2.1 194 (by decide) (by decide)]
        refine lv_aload_n hx hb dX4_readNumber_57 rfl (lv_at hl 0 rfl) ?_
        refine pg_f (v := .ref this_scanner) (C := RX4) (T := TX4) (N := 12) hx hb hts (tw_i inlX4) hown hK hP hL_this hK_this (by decide) rfl 0 (by decide) (hts _ (tw_c tw_154)) (pq_hv rfl hR_this_scanner) dX4_readNumber_58 ?_
        refine pk_v (va_runV (As := []) (rest := []) ⟨hx, hb, hml, hown, hts⟩ (s_X6_advance l D t σ I_21 J ri_22 rj rq H.size aK aV vF tg hSH hG.1 this_scanner hL_this_scanner hK_this_scanner) (cwV 0 hts (tw_V tw_663 tw_664 tw_665 tw_153 tw_666) rfl rfl rfl cv_yX6_advance_0 ⟨Nat.le_of_ble_eq_true rfl, Nat.le_of_ble_eq_true rfl⟩) ⟨pq_blindS, pq_recv hK hP hL_this_scanner hK_this_scanner (by decide) rfl, pq_preS hK hN hP hD hS hA hW0⟩ rfl rfl hl.1 rfl (lv_room (Nat.le_of_ble_eq_true rfl)) dX4_readNumber_61 ⟨Nat.le_of_ble_eq_true rfl, Nat.le_of_ble_eq_true rfl⟩) hD hS hA (fun σ1 μ1 H locs hw_35 hP hD hS => ?_)
        obtain ⟨I_36, hu_37, hg_38, hp_40, hp_41⟩ := hw_35
        obtain ⟨hu_37a, hu_37b⟩ := Prod.mk.inj hu_37
        rw [hu_37a, hu_37b] at hP hD
        have tt_42 := hp_40
        have tt_43 := hp_41
        have hG := GX.tr hG hg_38 (by decide)
        have tt_44 : (I_36 132 this).toInt = (I_21 132 this).toInt := by rw [hg_38.2.1 132 (by decide) (by decide)]
        have tt_45 : (I_36 134 this).toInt = (I_21 134 this).toInt := by rw [hg_38.2.1 134 (by decide) (by decide)]
        have tt_46 : (I_36 129 this).toInt = (I_21 129 this).toInt := by rw [hg_38.2.1 129 (by decide) (by decide)]
        refine lv_aload_n hx hb dX4_readNumber_64 rfl (lv_at hl 0 rfl) ?_
        refine pk_v (va_runV (As := []) (rest := []) ⟨hx, hb, hml, hown, hts⟩ (s_X4_expectSemicolon l D t σ I_36 J ri_22 rj rq H.size tg hSH hG.1 this hL_this hK_this) (cwV 0 hts (tw_V tw_805 tw_806 tw_807 tw_25 tw_808) rfl rfl rfl cv_yX4_expectSemicolon_0 ⟨Nat.le_of_ble_eq_true rfl, Nat.le_of_ble_eq_true rfl⟩) ⟨pq_blind, pq_recv hK hP hL_this hK_this (by decide) rfl, pq_pre hK hN hP hD⟩ rfl rfl hl.1 rfl (lv_room (Nat.le_of_ble_eq_true rfl)) dX4_readNumber_65 ⟨Nat.le_of_ble_eq_true rfl, Nat.le_of_ble_eq_true rfl⟩) hD hS hA (fun σ1 μ1 H locs hw_48 hP hD hS => ?_)
        obtain ⟨I_49, hu_50, hg_51, hp_53⟩ := hw_48
        obtain ⟨hu_50a, hu_50b⟩ := Prod.mk.inj hu_50
        rw [hu_50a, hu_50b] at hP hD
        have tt_54 := hp_53
        have hG := GX.tr hG hg_51 (by decide)
        have tt_55 : (I_49 132 this).toInt = (I_36 132 this).toInt := by rw [hg_51.2.1 132 (by decide) (by decide)]
        have tt_56 : (I_49 134 this).toInt = (I_36 134 this).toInt := by rw [hg_51.2.1 134 (by decide) (by decide)]
        have tt_57 : (I_49 197 this_scanner).toInt = (I_36 197 this_scanner).toInt := by rw [hg_51.2.1 197 (by decide) (by decide)]
        have tt_58 : (I_49 194 this_scanner).toInt = (I_36 194 this_scanner).toInt := by rw [hg_51.2.1 194 (by decide) (by decide)]
        subst hQ
        exact W.vret hx hb hr (fun t1 ht hW => ⟨⟨(σ, I_49, J, ri_22, rj, rq), rfl, ⟨I_49, ri_22, rfl, hG, (by omega), (ft_t (fun _ _ => rfl) hp_27)⟩, by rw [ht]; exact hP, va_K.moved hW.alike hK, hD⟩, hS.F ht⟩) hS.2.2 dX4_readNumber_68
      · have tc_59 : (a0).toInt < (I_3 196 this_scanner).toInt := Int32.lt_iff_toInt_lt.mp (nle c_17)
        have h_60 : rg a0 (-2147483648) 2147483646 := rg_lt1 (nle c_17) (rg_full _) (rg_full _) (by decide)
        have uh_60 := h_60.1
        have vh_60 := h_60.2
        have h_61 : rg (I_3 196 this_scanner) (-2147483647) 2147483647 := rg_lt2 (nle c_17) (rg_full _) (rg_full _) (by decide)
        have uh_61 := h_61.1
        have vh_61 := h_61.2
        refine lv_aload_n hx hb dX4_readNumber_38 rfl (lv_at hl 0 rfl) ?_
        refine lv_iconst (v := 2) hx hb dX4_readNumber_39 (by decide) ?_
        refine pk_v (va_runV (As := [.int 2]) (rest := []) ⟨hx, hb, hml, hown, hts⟩ (s_X4_refuse l D t σ I_3 J ri rj rq H.size tg hSH hG.1 this (2 : Int32) hL_this hK_this (rg_w (rg_k (2 : Int32) 2 rfl) (by decide))) (cwV 1 hts (tw_V tw_748 tw_749 tw_750 tw_25 tw_751) rfl rfl rfl cv_yX4_refuse_1 ⟨Nat.le_of_ble_eq_true rfl, Nat.le_of_ble_eq_true rfl⟩) ⟨pq_blind, pq_recv hK hP hL_this hK_this (by decide) rfl, pq_pre hK hN hP hD⟩ rfl rfl hl.1 rfl (lv_room (Nat.le_of_ble_eq_true rfl)) dX4_readNumber_40 ⟨Nat.le_of_ble_eq_true rfl, Nat.le_of_ble_eq_true rfl⟩) hD hS hA (fun σ1 μ1 H locs hw_63 hP hD hS => ?_)
        obtain ⟨I_64, hu_65, hg_66, hp_68⟩ := hw_63
        obtain ⟨hu_65a, hu_65b⟩ := Prod.mk.inj hu_65
        rw [hu_65a, hu_65b] at hP hD
        have tt_69 := hp_68
        have hG := GX.tr hG hg_66 (by decide)
        have tt_70 : (I_64 132 this).toInt = (I_3 132 this).toInt := by rw [hg_66.2.1 132 (by decide) (by decide)]
        have tt_71 : (I_64 134 this).toInt = (I_3 134 this).toInt := by rw [hg_66.2.1 134 (by decide) (by decide)]
        have tt_72 : (I_64 197 this_scanner).toInt = (I_3 197 this_scanner).toInt := by rw [hg_66.2.1 197 (by decide) (by decide)]
        have tt_73 : (I_64 194 this_scanner).toInt = (I_3 194 this_scanner).toInt := by rw [hg_66.2.1 194 (by decide) (by decide)]
        refine lv_goto (tgt := 68) hx hb dX4_readNumber_43 (by decide) ?_
        subst hQ
        exact W.vret hx hb hr (fun t1 ht hW => ⟨⟨(σ, I_64, J, ri, rj, rq), rfl, ⟨I_64, ri, rfl, hG, (by omega), (fun _ _ => rfl)⟩, by rw [ht]; exact hP, va_K.moved hW.alike hK, hD⟩, hS.F ht⟩) hS.2.2 dX4_readNumber_68
    · have tc_74 : (I_3 194 this_scanner).toInt ≠ 18 := fun q => c_14 (Int32.toInt_inj.mp q)
      refine lv_aload_n hx hb dX4_readNumber_19 rfl (lv_at hl 0 rfl) ?_
      refine lv_iconst (v := 1) hx hb dX4_readNumber_20 (by decide) ?_
      refine pk_v (va_runV (As := [.int 1]) (rest := []) ⟨hx, hb, hml, hown, hts⟩ (s_X4_refuse l D t σ I_3 J ri rj rq H.size tg hSH hG.1 this (1 : Int32) hL_this hK_this (rg_w (rg_k (1 : Int32) 1 rfl) (by decide))) (cwV 1 hts (tw_V tw_748 tw_749 tw_750 tw_25 tw_751) rfl rfl rfl cv_yX4_refuse_1 ⟨Nat.le_of_ble_eq_true rfl, Nat.le_of_ble_eq_true rfl⟩) ⟨pq_blind, pq_recv hK hP hL_this hK_this (by decide) rfl, pq_pre hK hN hP hD⟩ rfl rfl hl.1 rfl (lv_room (Nat.le_of_ble_eq_true rfl)) dX4_readNumber_21 ⟨Nat.le_of_ble_eq_true rfl, Nat.le_of_ble_eq_true rfl⟩) hD hS hA (fun σ1 μ1 H locs hw_76 hP hD hS => ?_)
      obtain ⟨I_77, hu_78, hg_79, hp_81⟩ := hw_76
      obtain ⟨hu_78a, hu_78b⟩ := Prod.mk.inj hu_78
      rw [hu_78a, hu_78b] at hP hD
      have tt_82 := hp_81
      have hG := GX.tr hG hg_79 (by decide)
      have tt_83 : (I_77 132 this).toInt = (I_3 132 this).toInt := by rw [hg_79.2.1 132 (by decide) (by decide)]
      have tt_84 : (I_77 134 this).toInt = (I_3 134 this).toInt := by rw [hg_79.2.1 134 (by decide) (by decide)]
      have tt_85 : (I_77 197 this_scanner).toInt = (I_3 197 this_scanner).toInt := by rw [hg_79.2.1 197 (by decide) (by decide)]
      have tt_86 : (I_77 194 this_scanner).toInt = (I_3 194 this_scanner).toInt := by rw [hg_79.2.1 194 (by decide) (by decide)]
      refine lv_goto (tgt := 68) hx hb dX4_readNumber_24 (by decide) ?_
      subst hQ
      exact W.vret hx hb hr (fun t1 ht hW => ⟨⟨(σ, I_77, J, ri, rj, rq), rfl, ⟨I_77, ri, rfl, hG, (by omega), (fun _ _ => rfl)⟩, by rw [ht]; exact hP, va_K.moved hW.alike hK, hD⟩, hS.F ht⟩) hS.2.2 dX4_readNumber_68
  exact go _ _ _ hP hD hS hl

set_option maxHeartbeats 4000000 in
set_option maxRecDepth 100000 in
theorem s_X4_readKey (l : Launch) (D : va_G) (t : pq_T) (σ : pq_S) (I : Nat → Nat → Int32) (J : Nat → Nat → Int64) (ri : Nat → Nat → Int32) (rj : Nat → Nat → Int64) (rq : Nat → Nat → Option Nat) (sz : Nat) (aK aV : Nat) (vF : Value) (tg : Nat → Nat) (hSH : SH σ tg) (hG0 : GS tg σ I ri rq) (this : Nat) (a0 : Int32) (hL_this : this ∈ σ.1) (hK_this : σ.2.1 this = 4) (this_scanner : Nat) (hR_this_scanner : σ.2.2.1 128 this = some this_scanner) (hL_this_scanner : this_scanner ∈ σ.1) (hK_this_scanner : σ.2.1 this_scanner = 6) : MetVS aK aV vF l yX4_readKey (wa yX4_readKey cX4_readKey 3 none) ({ frames := 6, cells := 0, slots := 0, locals := 129 }) [.ref this, .int a0] D t σ (I, J, ri, rj, rq) sz 0 0 (fun (u : pq_S × pq_M) => ∃ I' : Nat → Nat → Int32, ∃ ri' : Nat → Nat → Int32, u = (σ, I', J, ri', rj, rq) ∧ GX [132, 129, 197, 194] tg σ I ri rj I' ri' rj rq ∧ ((I' 132 this).toInt ≤ (I 132 this).toInt + 1 ∧ (I 197 this_scanner).toInt ≤ (I' 197 this_scanner).toInt ∧ ((I' 129 this).toInt = 0 → (I 194 this_scanner).toInt ≠ 33)) ∧ (∀ q, tg q = 258 → ri' q = ri q)) := by
  refine Met.ofW (cc := cX4_readKey) (maxL := 3) (ret := none) (by decide) rfl ?_
  intro p e s m args below meth c s₁ B hml hv
  obtain ⟨rfl, ⟨hsz, hP, hK, hD0, hN⟩, hW0⟩ := hv
  have hx := B.exec
  have hb := B.bytes
  have hr := B.returns
  have hts := atoms_spec (ws := (wa yX4_readKey cX4_readKey 3 none)) B.pre
  have hown : s.vm.findClass RX4 = some m.cls := findClass_of_methodNamed B.named
  have hlocks := B.notSynchronized
  subst hsz
  have hD : va_D (pq_B t σ (I, J, ri, rj, rq) s.heap.size) (pq_P t σ (I, J, ri, rj, rq)) := hD0.self
  generalize hAe : pq_B t σ (I, J, ri, rj, rq) s.heap.size = A at hD hW0 ⊢
  have hA : ∀ q : Nat, s.heap.size ≤ q → A q := fun q h => by rw [← hAe]; exact Or.inr h
  have hS : va_S A s.heap s.heap [] := va_S.rf
  have hG : GX [132, 129, 197, 194] tg σ I ri rj I ri rj rq := ⟨hG0, fun _ _ _ => rfl, fun _ _ _ _ _ => rfl, fun _ _ _ _ _ => rfl⟩
  have hl := lv_entry ([.ref this, .int a0]) (n := 3) (Nat.le_of_ble_eq_true rfl)
  rw [lg_entry_eq]
  generalize (lg_sl ([.ref this, .int a0]) ++ List.replicate (3 - (lg_sl ([.ref this, .int a0])).length) Slot.unset).toArray = ls at hl ⊢
  have hl : lv_has ls 3 [(0, .ref this), (1, .int a0)] := hl
  refine q_gen (fun Q hQ => ?_)
  have go : ∀ (H : Heap) (locs : List Loc) (ls : Array Slot), va_P D vwCl (pq_P t σ (I, J, ri, rj, rq)) H → va_D A (pq_P t σ (I, J, ri, rj, rq)) → va_S A s.heap H locs → lv_has ls 3 [(0, .ref this), (1, .int a0)] → W p l e ({ frames := 6, cells := 0, slots := 0, locals := 129 } : Room) s m (List.toArray ([.ref this, .int a0] : List Value)) below meth c H locs 0 0 Q (F0 m 0 ls []) := by
    intro H locs ls hP hD hS hl
    refine lv_aload_n hx hb dX4_readKey_0 rfl (lv_at hl 0 rfl) ?_
    refine pg_f (v := .ref this_scanner) (C := RX4) (T := TX4) (N := 12) hx hb hts (tw_i inlX4) hown hK hP hL_this hK_this (by decide) rfl 0 (by decide) (hts _ (tw_c tw_154)) (pq_hv rfl hR_this_scanner) dX4_readKey_1 ?_
    refine pg_f (v := .int (I 194 this_scanner)) (C := RX6) (T := TX6) (N := 6) hx hb hts (tw_i inlX6) hown hK hP hL_this_scanner hK_this_scanner (by decide) rfl 2 (by decide) (hts _ (tw_c tw_657)) rfl dX4_readKey_4 ?_
    refine lv_bipush (v := 26) hx hb dX4_readKey_7 (by decide) ?_
    refine lv_icmp_ne (tgt := 16) hx hb dX4_readKey_9 (by decide) (fun c_1 => ?_) (fun c_1 => ?_)
    · have tc_2 : (I 194 this_scanner).toInt ≠ 26 := fun q => c_1 (Int32.toInt_inj.mp q)
      refine lv_iconst (v := 0) hx hb dX4_readKey_16 (by decide) ?_
      refine lv_istore_n (lv' := [(2, .int 0), (0, .ref this), (1, .int a0)]) hx hb dX4_readKey_17 rfl hl (by decide) rfl (fun ls hl => ?_)
      refine lv_iload_n hx hb dX4_readKey_18 rfl (lv_at hl 0 rfl) ?_
      refine lv_if_ne (tgt := 43) hx hb dX4_readKey_19 (by decide) (fun c_3 => absurd c_3 (by decide)) (fun c_3 => ?_)
      refine lv_aload_n hx hb dX4_readKey_22 rfl (lv_at hl 1 rfl) ?_
      refine pg_f (v := .ref this_scanner) (C := RX4) (T := TX4) (N := 12) hx hb hts (tw_i inlX4) hown hK hP hL_this hK_this (by decide) rfl 0 (by decide) (hts _ (tw_c tw_154)) (pq_hv rfl hR_this_scanner) dX4_readKey_23 ?_
      refine pg_f (v := .int (I 194 this_scanner)) (C := RX6) (T := TX6) (N := 6) hx hb hts (tw_i inlX6) hown hK hP hL_this_scanner hK_this_scanner (by decide) rfl 2 (by decide) (hts _ (tw_c tw_657)) rfl dX4_readKey_26 ?_
      refine pk_i (va_runS (As := [.int (I 194 this_scanner)]) (rest := []) ⟨hx, hb, hml, hown, hts⟩ (s_X4_isName l D t σ I J ri rj rq H.size tg hSH hG.1 (I 194 this_scanner)) (va_cwS 1 hts (tw_S tw_774 tw_775 tw_25 tw_776) rfl rfl rfl cd_yX4_isName_1 ⟨Nat.le_of_ble_eq_true rfl, Nat.le_of_ble_eq_true rfl⟩) ⟨pq_blind, pq_pre hK hN hP hD⟩ rfl rfl hl.1 rfl (lv_room (Nat.le_of_ble_eq_true rfl)) dX4_readKey_29 ⟨Nat.le_of_ble_eq_true rfl, Nat.le_of_ble_eq_true rfl⟩) hD hS hA (fun x_4 σ1 μ1 H locs hw_5 hP hD hS => ?_)
      obtain ⟨hu_6, hr_8⟩ := hw_5
      obtain ⟨hu_6a, hu_6b⟩ := Prod.mk.inj hu_6
      rw [hu_6a, hu_6b] at hP hD
      have h_9 : rg x_4 0 1 := by rcases hr_8 with ⟨q, -⟩ | ⟨q, -⟩ <;> rw [q] <;> exact ⟨by decide, by decide⟩
      have uh_9 := h_9.1
      have vh_9 := h_9.2
      refine lv_if_ne (tgt := 43) hx hb dX4_readKey_32 (by decide) (fun c_10 => ?_) (fun c_10 => ?_)
      · have f_11 := (hr_8.resolve_right (fun q => c_10 q.1)).2
        have uf_11 := f_11.1
        have vf_11 := f_11.2
        have tc_12 : (x_4).toInt ≠ 0 := fun q => c_10 (Int32.toInt_inj.mp q)
        have h_13 : rg x_4 1 1 := rg_ne c_10 h_9 0 rfl (by decide)
        have uh_13 := h_13.1
        have vh_13 := h_13.2
        refine lv_iload_n hx hb dX4_readKey_43 rfl (lv_at hl 2 rfl) ?_
        refine lv_iconst (v := 4) hx hb dX4_readKey_44 (by decide) ?_
        refine lv_icmp_lt (tgt := 56) hx hb dX4_readKey_45 (by decide) (fun c_14 => ?_) (fun c_14 => ?_)
        · have tc_15 : (a0).toInt < 4 := Int32.lt_iff_toInt_lt.mp c_14
          have h_16 : rg a0 (-2147483648) 3 := rg_lt1 c_14 (rg_full _) (rg_k (4 : Int32) 4 rfl) (by decide)
          have uh_16 := h_16.1
          have vh_16 := h_16.2
          refine lv_iload_n hx hb dX4_readKey_56 rfl (lv_at hl 0 rfl) ?_
          refine lv_if_eq (tgt := 85) hx hb dX4_readKey_57 (by decide) (fun c_17 => ?_) (fun c_17 => absurd c_17 (by decide))
          refine lv_aload_n hx hb dX4_readKey_85 rfl (lv_at hl 1 rfl) ?_
          refine lv_iload_n hx hb dX4_readKey_86 rfl (lv_at hl 0 rfl) ?_
          refine lv_if_eq (tgt := 101) hx hb dX4_readKey_87 (by decide) (fun c_18 => ?_) (fun c_18 => absurd c_18 (by decide))
          refine lv_aload_n hx hb dX4_readKey_101 rfl (lv_at hl 1 rfl) ?_
          refine pg_f (v := .ref this_scanner) (C := RX4) (T := TX4) (N := 12) hx hb hts (tw_i inlX4) hown hK hP hL_this hK_this (by decide) rfl 0 (by decide) (hts _ (tw_c tw_154)) (pq_hv rfl hR_this_scanner) dX4_readKey_102 ?_
          refine pg_f (v := .int (I 194 this_scanner)) (C := RX6) (T := TX6) (N := 6) hx hb hts (tw_i inlX6) hown hK hP hL_this_scanner hK_this_scanner (by decide) rfl 2 (by decide) (hts _ (tw_c tw_657)) rfl dX4_readKey_105 ?_
          refine pk_v (va_runV (As := [.int (I 194 this_scanner)]) (rest := []) ⟨hx, hb, hml, hown, hts⟩ (s_X4_emit l D t σ I J ri rj rq H.size tg hSH hG.1 this (I 194 this_scanner) hL_this hK_this) (cwV 1 hts (tw_V tw_769 tw_770 tw_771 tw_25 tw_772) rfl rfl rfl cv_yX4_emit_1 ⟨Nat.le_of_ble_eq_true rfl, Nat.le_of_ble_eq_true rfl⟩) ⟨pq_blind, pq_recv hK hP hL_this hK_this (by decide) rfl, pq_pre hK hN hP hD⟩ rfl rfl hl.1 rfl (lv_room (Nat.le_of_ble_eq_true rfl)) dX4_readKey_108 ⟨Nat.le_of_ble_eq_true rfl, Nat.le_of_ble_eq_true rfl⟩) hD hS hA (fun σ1 μ1 H locs hw_20 hP hD hS => ?_)
          obtain ⟨I_21, ri_22, hu_23, hg_24, hp_26, hp_27⟩ := hw_20
          obtain ⟨hu_23a, hu_23b⟩ := Prod.mk.inj hu_23
          rw [hu_23a, hu_23b] at hP hD
          have tt_28 := hp_26
          have tt_29 := hp_27
          have hG := GX.tr hG hg_24 (by decide)
          have tt_30 : (I_21 134 this).toInt = (I 134 this).toInt := by rw [hg_24.2.1 134 (by decide) (by decide)]
          have tt_31 : (I_21 129 this).toInt = (I 129 this).toInt := by rw [hg_24.2.1 129 (by decide) (by decide)]
          have tt_32 : (I_21 197 this_scanner).toInt = (I 197 this_scanner).toInt := by rw [hg_24.2.1 197 (by decide) (by decide)]
          have tt_33 : (I_21 194 this_scanner).toInt = (I 194 this_scanner).toInt := by rw [hg_24.2.1 194 (by decide) (by decide)]
          subst hQ
          exact W.vret hx hb hr (fun t1 ht hW => ⟨⟨(σ, I_21, J, ri_22, rj, rq), rfl, ⟨I_21, ri_22, rfl, hG, (by omega), (ft_t (fun _ _ => rfl) hp_27)⟩, by rw [ht]; exact hP, va_K.moved hW.alike hK, hD⟩, hS.F ht⟩) hS.2.2 dX4_readKey_111
        · have tc_34 : 4 ≤ (a0).toInt := Int32.le_iff_toInt_le.mp (nlt c_14)
          have h_35 : rg a0 4 2147483647 := rg_le2 (nlt c_14) (rg_k (4 : Int32) 4 rfl) (rg_full _) (by decide)
          have uh_35 := h_35.1
          have vh_35 := h_35.2
          refine lv_aload_n hx hb dX4_readKey_48 rfl (lv_at hl 1 rfl) ?_
          refine lv_iconst (v := 5) hx hb dX4_readKey_49 (by decide) ?_
          refine pk_v (va_runV (As := [.int 5]) (rest := []) ⟨hx, hb, hml, hown, hts⟩ (s_X4_refuse l D t σ I J ri rj rq H.size tg hSH hG.1 this (5 : Int32) hL_this hK_this (rg_w (rg_k (5 : Int32) 5 rfl) (by decide))) (cwV 1 hts (tw_V tw_748 tw_749 tw_750 tw_25 tw_751) rfl rfl rfl cv_yX4_refuse_1 ⟨Nat.le_of_ble_eq_true rfl, Nat.le_of_ble_eq_true rfl⟩) ⟨pq_blind, pq_recv hK hP hL_this hK_this (by decide) rfl, pq_pre hK hN hP hD⟩ rfl rfl hl.1 rfl (lv_room (Nat.le_of_ble_eq_true rfl)) dX4_readKey_50 ⟨Nat.le_of_ble_eq_true rfl, Nat.le_of_ble_eq_true rfl⟩) hD hS hA (fun σ1 μ1 H locs hw_37 hP hD hS => ?_)
          obtain ⟨I_38, hu_39, hg_40, hp_42⟩ := hw_37
          obtain ⟨hu_39a, hu_39b⟩ := Prod.mk.inj hu_39
          rw [hu_39a, hu_39b] at hP hD
          have tt_43 := hp_42
          have hG := GX.tr hG hg_40 (by decide)
          have tt_44 : (I_38 132 this).toInt = (I 132 this).toInt := by rw [hg_40.2.1 132 (by decide) (by decide)]
          have tt_45 : (I_38 134 this).toInt = (I 134 this).toInt := by rw [hg_40.2.1 134 (by decide) (by decide)]
          have tt_46 : (I_38 197 this_scanner).toInt = (I 197 this_scanner).toInt := by rw [hg_40.2.1 197 (by decide) (by decide)]
          have tt_47 : (I_38 194 this_scanner).toInt = (I 194 this_scanner).toInt := by rw [hg_40.2.1 194 (by decide) (by decide)]
          refine lv_goto (tgt := 85) hx hb dX4_readKey_53 (by decide) ?_
          refine lv_aload_n hx hb dX4_readKey_85 rfl (lv_at hl 1 rfl) ?_
          refine lv_iload_n hx hb dX4_readKey_86 rfl (lv_at hl 0 rfl) ?_
          refine lv_if_eq (tgt := 101) hx hb dX4_readKey_87 (by decide) (fun c_48 => ?_) (fun c_48 => absurd c_48 (by decide))
          refine lv_aload_n hx hb dX4_readKey_101 rfl (lv_at hl 1 rfl) ?_
          refine pg_f (v := .ref this_scanner) (C := RX4) (T := TX4) (N := 12) hx hb hts (tw_i inlX4) hown hK hP hL_this hK_this (by decide) rfl 0 (by decide) (hts _ (tw_c tw_154)) (pq_hv rfl hR_this_scanner) dX4_readKey_102 ?_
          refine pg_f (v := .int (I_38 194 this_scanner)) (C := RX6) (T := TX6) (N := 6) hx hb hts (tw_i inlX6) hown hK hP hL_this_scanner hK_this_scanner (by decide) rfl 2 (by decide) (hts _ (tw_c tw_657)) rfl dX4_readKey_105 ?_
          have h_49 : rg (I_38 194 this_scanner) 12 17 := (by rw [hg_40.2.1 194 (by decide) (by decide)]; exact f_11)
          have uh_49 := h_49.1
          have vh_49 := h_49.2
          refine pk_v (va_runV (As := [.int (I_38 194 this_scanner)]) (rest := []) ⟨hx, hb, hml, hown, hts⟩ (s_X4_emit l D t σ I_38 J ri rj rq H.size tg hSH hG.1 this (I_38 194 this_scanner) hL_this hK_this) (cwV 1 hts (tw_V tw_769 tw_770 tw_771 tw_25 tw_772) rfl rfl rfl cv_yX4_emit_1 ⟨Nat.le_of_ble_eq_true rfl, Nat.le_of_ble_eq_true rfl⟩) ⟨pq_blind, pq_recv hK hP hL_this hK_this (by decide) rfl, pq_pre hK hN hP hD⟩ rfl rfl hl.1 rfl (lv_room (Nat.le_of_ble_eq_true rfl)) dX4_readKey_108 ⟨Nat.le_of_ble_eq_true rfl, Nat.le_of_ble_eq_true rfl⟩) hD hS hA (fun σ1 μ1 H locs hw_51 hP hD hS => ?_)
          obtain ⟨I_52, ri_53, hu_54, hg_55, hp_57, hp_58⟩ := hw_51
          obtain ⟨hu_54a, hu_54b⟩ := Prod.mk.inj hu_54
          rw [hu_54a, hu_54b] at hP hD
          have tt_59 := hp_57
          have tt_60 := hp_58
          have hG := GX.tr hG hg_55 (by decide)
          have tt_61 : (I_52 134 this).toInt = (I_38 134 this).toInt := by rw [hg_55.2.1 134 (by decide) (by decide)]
          have tt_62 : (I_52 129 this).toInt = (I_38 129 this).toInt := by rw [hg_55.2.1 129 (by decide) (by decide)]
          have tt_63 : (I_52 197 this_scanner).toInt = (I_38 197 this_scanner).toInt := by rw [hg_55.2.1 197 (by decide) (by decide)]
          have tt_64 : (I_52 194 this_scanner).toInt = (I_38 194 this_scanner).toInt := by rw [hg_55.2.1 194 (by decide) (by decide)]
          subst hQ
          exact W.vret hx hb hr (fun t1 ht hW => ⟨⟨(σ, I_52, J, ri_53, rj, rq), rfl, ⟨I_52, ri_53, rfl, hG, (by omega), (ft_t (fun _ _ => rfl) hp_58)⟩, by rw [ht]; exact hP, va_K.moved hW.alike hK, hD⟩, hS.F ht⟩) hS.2.2 dX4_readKey_111
      · have f_65 := (hr_8.resolve_left (fun q => absurd (q.1.symm.trans c_10) (by decide))).2
        have tc_66 : (x_4).toInt = 0 := congrArg Int32.toInt c_10
        have h_67 : rg x_4 0 0 := rg_and h_9 (rg_of_eq c_10 (rg_k (0 : Int32) 0 rfl)) (by decide)
        have uh_67 := h_67.1
        have vh_67 := h_67.2
        refine lv_aload_n hx hb dX4_readKey_35 rfl (lv_at hl 1 rfl) ?_
        refine lv_iconst (v := 1) hx hb dX4_readKey_36 (by decide) ?_
        refine pk_v (va_runV (As := [.int 1]) (rest := []) ⟨hx, hb, hml, hown, hts⟩ (s_X4_refuse l D t σ I J ri rj rq H.size tg hSH hG.1 this (1 : Int32) hL_this hK_this (rg_w (rg_k (1 : Int32) 1 rfl) (by decide))) (cwV 1 hts (tw_V tw_748 tw_749 tw_750 tw_25 tw_751) rfl rfl rfl cv_yX4_refuse_1 ⟨Nat.le_of_ble_eq_true rfl, Nat.le_of_ble_eq_true rfl⟩) ⟨pq_blind, pq_recv hK hP hL_this hK_this (by decide) rfl, pq_pre hK hN hP hD⟩ rfl rfl hl.1 rfl (lv_room (Nat.le_of_ble_eq_true rfl)) dX4_readKey_37 ⟨Nat.le_of_ble_eq_true rfl, Nat.le_of_ble_eq_true rfl⟩) hD hS hA (fun σ1 μ1 H locs hw_69 hP hD hS => ?_)
        obtain ⟨I_70, hu_71, hg_72, hp_74⟩ := hw_69
        obtain ⟨hu_71a, hu_71b⟩ := Prod.mk.inj hu_71
        rw [hu_71a, hu_71b] at hP hD
        have tt_75 := hp_74
        have hG := GX.tr hG hg_72 (by decide)
        have tt_76 : (I_70 132 this).toInt = (I 132 this).toInt := by rw [hg_72.2.1 132 (by decide) (by decide)]
        have tt_77 : (I_70 134 this).toInt = (I 134 this).toInt := by rw [hg_72.2.1 134 (by decide) (by decide)]
        have tt_78 : (I_70 197 this_scanner).toInt = (I 197 this_scanner).toInt := by rw [hg_72.2.1 197 (by decide) (by decide)]
        have tt_79 : (I_70 194 this_scanner).toInt = (I 194 this_scanner).toInt := by rw [hg_72.2.1 194 (by decide) (by decide)]
        refine lv_goto (tgt := 85) hx hb dX4_readKey_40 (by decide) ?_
        refine lv_aload_n hx hb dX4_readKey_85 rfl (lv_at hl 1 rfl) ?_
        refine lv_iload_n hx hb dX4_readKey_86 rfl (lv_at hl 0 rfl) ?_
        refine lv_if_eq (tgt := 101) hx hb dX4_readKey_87 (by decide) (fun c_80 => ?_) (fun c_80 => absurd c_80 (by decide))
        refine lv_aload_n hx hb dX4_readKey_101 rfl (lv_at hl 1 rfl) ?_
        refine pg_f (v := .ref this_scanner) (C := RX4) (T := TX4) (N := 12) hx hb hts (tw_i inlX4) hown hK hP hL_this hK_this (by decide) rfl 0 (by decide) (hts _ (tw_c tw_154)) (pq_hv rfl hR_this_scanner) dX4_readKey_102 ?_
        refine pg_f (v := .int (I_70 194 this_scanner)) (C := RX6) (T := TX6) (N := 6) hx hb hts (tw_i inlX6) hown hK hP hL_this_scanner hK_this_scanner (by decide) rfl 2 (by decide) (hts _ (tw_c tw_657)) rfl dX4_readKey_105 ?_
        refine pk_v (va_runV (As := [.int (I_70 194 this_scanner)]) (rest := []) ⟨hx, hb, hml, hown, hts⟩ (s_X4_emit l D t σ I_70 J ri rj rq H.size tg hSH hG.1 this (I_70 194 this_scanner) hL_this hK_this) (cwV 1 hts (tw_V tw_769 tw_770 tw_771 tw_25 tw_772) rfl rfl rfl cv_yX4_emit_1 ⟨Nat.le_of_ble_eq_true rfl, Nat.le_of_ble_eq_true rfl⟩) ⟨pq_blind, pq_recv hK hP hL_this hK_this (by decide) rfl, pq_pre hK hN hP hD⟩ rfl rfl hl.1 rfl (lv_room (Nat.le_of_ble_eq_true rfl)) dX4_readKey_108 ⟨Nat.le_of_ble_eq_true rfl, Nat.le_of_ble_eq_true rfl⟩) hD hS hA (fun σ1 μ1 H locs hw_82 hP hD hS => ?_)
        obtain ⟨I_83, ri_84, hu_85, hg_86, hp_88, hp_89⟩ := hw_82
        obtain ⟨hu_85a, hu_85b⟩ := Prod.mk.inj hu_85
        rw [hu_85a, hu_85b] at hP hD
        have tt_90 := hp_88
        have tt_91 := hp_89
        have hG := GX.tr hG hg_86 (by decide)
        have tt_92 : (I_83 134 this).toInt = (I_70 134 this).toInt := by rw [hg_86.2.1 134 (by decide) (by decide)]
        have tt_93 : (I_83 129 this).toInt = (I_70 129 this).toInt := by rw [hg_86.2.1 129 (by decide) (by decide)]
        have tt_94 : (I_83 197 this_scanner).toInt = (I_70 197 this_scanner).toInt := by rw [hg_86.2.1 197 (by decide) (by decide)]
        have tt_95 : (I_83 194 this_scanner).toInt = (I_70 194 this_scanner).toInt := by rw [hg_86.2.1 194 (by decide) (by decide)]
        subst hQ
        exact W.vret hx hb hr (fun t1 ht hW => ⟨⟨(σ, I_83, J, ri_84, rj, rq), rfl, ⟨I_83, ri_84, rfl, hG, (by omega), (ft_t (fun _ _ => rfl) hp_89)⟩, by rw [ht]; exact hP, va_K.moved hW.alike hK, hD⟩, hS.F ht⟩) hS.2.2 dX4_readKey_111
    · have tc_96 : (I 194 this_scanner).toInt = 26 := congrArg Int32.toInt c_1
      have h_97 : rg (I 194 this_scanner) 26 26 := rg_and (rg_full _) (rg_of_eq c_1 (rg_k (26 : Int32) 26 rfl)) (by decide)
      have uh_97 := h_97.1
      have vh_97 := h_97.2
      refine lv_iconst (v := 1) hx hb dX4_readKey_12 (by decide) ?_
      refine lv_goto (tgt := 17) hx hb dX4_readKey_13 (by decide) ?_
      refine lv_istore_n (lv' := [(2, .int 1), (0, .ref this), (1, .int a0)]) hx hb dX4_readKey_17 rfl hl (by decide) rfl (fun ls hl => ?_)
      refine lv_iload_n hx hb dX4_readKey_18 rfl (lv_at hl 0 rfl) ?_
      refine lv_if_ne (tgt := 43) hx hb dX4_readKey_19 (by decide) (fun c_98 => ?_) (fun c_98 => absurd c_98 (by decide))
      refine lv_iload_n hx hb dX4_readKey_43 rfl (lv_at hl 2 rfl) ?_
      refine lv_iconst (v := 4) hx hb dX4_readKey_44 (by decide) ?_
      refine lv_icmp_lt (tgt := 56) hx hb dX4_readKey_45 (by decide) (fun c_99 => ?_) (fun c_99 => ?_)
      · have tc_100 : (a0).toInt < 4 := Int32.lt_iff_toInt_lt.mp c_99
        have h_101 : rg a0 (-2147483648) 3 := rg_lt1 c_99 (rg_full _) (rg_k (4 : Int32) 4 rfl) (by decide)
        have uh_101 := h_101.1
        have vh_101 := h_101.2
        refine lv_iload_n hx hb dX4_readKey_56 rfl (lv_at hl 0 rfl) ?_
        refine lv_if_eq (tgt := 85) hx hb dX4_readKey_57 (by decide) (fun c_102 => absurd c_102 (by decide)) (fun c_102 => ?_)
        refine lv_aload_n hx hb dX4_readKey_60 rfl (lv_at hl 1 rfl) ?_
        refine pg_f (v := .ref this_scanner) (C := RX4) (T := TX4) (N := 12) hx hb hts (tw_i inlX4) hown hK hP hL_this hK_this (by decide) rfl 0 (by decide) (hts _ (tw_c tw_154)) (pq_hv rfl hR_this_scanner) dX4_readKey_61 ?_
        refine pk_v (va_runV (As := []) (rest := []) ⟨hx, hb, hml, hown, hts⟩ (s_X6_advance l D t σ I J ri rj rq H.size aK aV vF tg hSH hG.1 this_scanner hL_this_scanner hK_this_scanner) (cwV 0 hts (tw_V tw_663 tw_664 tw_665 tw_153 tw_666) rfl rfl rfl cv_yX6_advance_0 ⟨Nat.le_of_ble_eq_true rfl, Nat.le_of_ble_eq_true rfl⟩) ⟨pq_blindS, pq_recv hK hP hL_this_scanner hK_this_scanner (by decide) rfl, pq_preS hK hN hP hD hS hA hW0⟩ rfl rfl hl.1 rfl (lv_room (Nat.le_of_ble_eq_true rfl)) dX4_readKey_64 ⟨Nat.le_of_ble_eq_true rfl, Nat.le_of_ble_eq_true rfl⟩) hD hS hA (fun σ1 μ1 H locs hw_104 hP hD hS => ?_)
        obtain ⟨I_105, hu_106, hg_107, hp_109, hp_110⟩ := hw_104
        obtain ⟨hu_106a, hu_106b⟩ := Prod.mk.inj hu_106
        rw [hu_106a, hu_106b] at hP hD
        have tt_111 := hp_109
        have tt_112 := hp_110
        have hG := GX.tr hG hg_107 (by decide)
        have tt_113 : (I_105 132 this).toInt = (I 132 this).toInt := by rw [hg_107.2.1 132 (by decide) (by decide)]
        have tt_114 : (I_105 134 this).toInt = (I 134 this).toInt := by rw [hg_107.2.1 134 (by decide) (by decide)]
        have tt_115 : (I_105 129 this).toInt = (I 129 this).toInt := by rw [hg_107.2.1 129 (by decide) (by decide)]
        refine lv_aload_n hx hb dX4_readKey_67 rfl (lv_at hl 1 rfl) ?_
        refine pg_f (v := .ref this_scanner) (C := RX4) (T := TX4) (N := 12) hx hb hts (tw_i inlX4) hown hK hP hL_this hK_this (by decide) rfl 0 (by decide) (hts _ (tw_c tw_154)) (pq_hv rfl hR_this_scanner) dX4_readKey_68 ?_
        refine pg_f (v := .int (I_105 194 this_scanner)) (C := RX6) (T := TX6) (N := 6) hx hb hts (tw_i inlX6) hown hK hP hL_this_scanner hK_this_scanner (by decide) rfl 2 (by decide) (hts _ (tw_c tw_657)) rfl dX4_readKey_71 ?_
        refine pk_i (va_runS (As := [.int (I_105 194 this_scanner)]) (rest := []) ⟨hx, hb, hml, hown, hts⟩ (s_X4_isName l D t σ I_105 J ri rj rq H.size tg hSH hG.1 (I_105 194 this_scanner)) (va_cwS 1 hts (tw_S tw_774 tw_775 tw_25 tw_776) rfl rfl rfl cd_yX4_isName_1 ⟨Nat.le_of_ble_eq_true rfl, Nat.le_of_ble_eq_true rfl⟩) ⟨pq_blind, pq_pre hK hN hP hD⟩ rfl rfl hl.1 rfl (lv_room (Nat.le_of_ble_eq_true rfl)) dX4_readKey_74 ⟨Nat.le_of_ble_eq_true rfl, Nat.le_of_ble_eq_true rfl⟩) hD hS hA (fun x_116 σ1 μ1 H locs hw_117 hP hD hS => ?_)
        obtain ⟨hu_118, hr_120⟩ := hw_117
        obtain ⟨hu_118a, hu_118b⟩ := Prod.mk.inj hu_118
        rw [hu_118a, hu_118b] at hP hD
        have h_121 : rg x_116 0 1 := by rcases hr_120 with ⟨q, -⟩ | ⟨q, -⟩ <;> rw [q] <;> exact ⟨by decide, by decide⟩
        have uh_121 := h_121.1
        have vh_121 := h_121.2
        refine lv_if_ne (tgt := 85) hx hb dX4_readKey_77 (by decide) (fun c_122 => ?_) (fun c_122 => ?_)
        · have f_123 := (hr_120.resolve_right (fun q => c_122 q.1)).2
          have uf_123 := f_123.1
          have vf_123 := f_123.2
          have tc_124 : (x_116).toInt ≠ 0 := fun q => c_122 (Int32.toInt_inj.mp q)
          have h_125 : rg x_116 1 1 := rg_ne c_122 h_121 0 rfl (by decide)
          have uh_125 := h_125.1
          have vh_125 := h_125.2
          refine lv_aload_n hx hb dX4_readKey_85 rfl (lv_at hl 1 rfl) ?_
          refine lv_iload_n hx hb dX4_readKey_86 rfl (lv_at hl 0 rfl) ?_
          refine lv_if_eq (tgt := 101) hx hb dX4_readKey_87 (by decide) (fun c_126 => absurd c_126 (by decide)) (fun c_126 => ?_)
          refine lv_aload_n hx hb dX4_readKey_90 rfl (lv_at hl 1 rfl) ?_
          refine pg_f (v := .ref this_scanner) (C := RX4) (T := TX4) (N := 12) hx hb hts (tw_i inlX4) hown hK hP hL_this hK_this (by decide) rfl 0 (by decide) (hts _ (tw_c tw_154)) (pq_hv rfl hR_this_scanner) dX4_readKey_91 ?_
          refine pg_f (v := .int (I_105 194 this_scanner)) (C := RX6) (T := TX6) (N := 6) hx hb hts (tw_i inlX6) hown hK hP hL_this_scanner hK_this_scanner (by decide) rfl 2 (by decide) (hts _ (tw_c tw_657)) rfl dX4_readKey_94 ?_
          refine lv_ineg hx hb dX4_readKey_97 ?_
          refine lv_topi (fun x_127 ex_127 => ?_)
          have h_128 : rg x_127 (-17) (-12) := rg_of_eq ex_127 (rg_neg f_123 (by decide))
          have uh_128 := h_128.1
          have vh_128 := h_128.2
          refine lv_goto (tgt := 108) hx hb dX4_readKey_98 (by decide) ?_
          refine pk_v (va_runV (As := [.int x_127]) (rest := []) ⟨hx, hb, hml, hown, hts⟩ (s_X4_emit l D t σ I_105 J ri rj rq H.size tg hSH hG.1 this x_127 hL_this hK_this) (cwV 1 hts (tw_V tw_769 tw_770 tw_771 tw_25 tw_772) rfl rfl rfl cv_yX4_emit_1 ⟨Nat.le_of_ble_eq_true rfl, Nat.le_of_ble_eq_true rfl⟩) ⟨pq_blind, pq_recv hK hP hL_this hK_this (by decide) rfl, pq_pre hK hN hP hD⟩ rfl rfl hl.1 rfl (lv_room (Nat.le_of_ble_eq_true rfl)) dX4_readKey_108 ⟨Nat.le_of_ble_eq_true rfl, Nat.le_of_ble_eq_true rfl⟩) hD hS hA (fun σ1 μ1 H locs hw_130 hP hD hS => ?_)
          obtain ⟨I_131, ri_132, hu_133, hg_134, hp_136, hp_137⟩ := hw_130
          obtain ⟨hu_133a, hu_133b⟩ := Prod.mk.inj hu_133
          rw [hu_133a, hu_133b] at hP hD
          have tt_138 := hp_136
          have tt_139 := hp_137
          have hG := GX.tr hG hg_134 (by decide)
          have tt_140 : (I_131 134 this).toInt = (I_105 134 this).toInt := by rw [hg_134.2.1 134 (by decide) (by decide)]
          have tt_141 : (I_131 129 this).toInt = (I_105 129 this).toInt := by rw [hg_134.2.1 129 (by decide) (by decide)]
          have tt_142 : (I_131 197 this_scanner).toInt = (I_105 197 this_scanner).toInt := by rw [hg_134.2.1 197 (by decide) (by decide)]
          have tt_143 : (I_131 194 this_scanner).toInt = (I_105 194 this_scanner).toInt := by rw [hg_134.2.1 194 (by decide) (by decide)]
          subst hQ
          exact W.vret hx hb hr (fun t1 ht hW => ⟨⟨(σ, I_131, J, ri_132, rj, rq), rfl, ⟨I_131, ri_132, rfl, hG, (by omega), (ft_t (fun _ _ => rfl) hp_137)⟩, by rw [ht]; exact hP, va_K.moved hW.alike hK, hD⟩, hS.F ht⟩) hS.2.2 dX4_readKey_111
        · have f_144 := (hr_120.resolve_left (fun q => absurd (q.1.symm.trans c_122) (by decide))).2
          have tc_145 : (x_116).toInt = 0 := congrArg Int32.toInt c_122
          have h_146 : rg x_116 0 0 := rg_and h_121 (rg_of_eq c_122 (rg_k (0 : Int32) 0 rfl)) (by decide)
          have uh_146 := h_146.1
          have vh_146 := h_146.2
          refine lv_aload_n hx hb dX4_readKey_80 rfl (lv_at hl 1 rfl) ?_
          refine lv_iconst (v := 1) hx hb dX4_readKey_81 (by decide) ?_
          refine pk_v (va_runV (As := [.int 1]) (rest := []) ⟨hx, hb, hml, hown, hts⟩ (s_X4_refuse l D t σ I_105 J ri rj rq H.size tg hSH hG.1 this (1 : Int32) hL_this hK_this (rg_w (rg_k (1 : Int32) 1 rfl) (by decide))) (cwV 1 hts (tw_V tw_748 tw_749 tw_750 tw_25 tw_751) rfl rfl rfl cv_yX4_refuse_1 ⟨Nat.le_of_ble_eq_true rfl, Nat.le_of_ble_eq_true rfl⟩) ⟨pq_blind, pq_recv hK hP hL_this hK_this (by decide) rfl, pq_pre hK hN hP hD⟩ rfl rfl hl.1 rfl (lv_room (Nat.le_of_ble_eq_true rfl)) dX4_readKey_82 ⟨Nat.le_of_ble_eq_true rfl, Nat.le_of_ble_eq_true rfl⟩) hD hS hA (fun σ1 μ1 H locs hw_148 hP hD hS => ?_)
          obtain ⟨I_149, hu_150, hg_151, hp_153⟩ := hw_148
          obtain ⟨hu_150a, hu_150b⟩ := Prod.mk.inj hu_150
          rw [hu_150a, hu_150b] at hP hD
          have tt_154 := hp_153
          have hG := GX.tr hG hg_151 (by decide)
          have tt_155 : (I_149 132 this).toInt = (I_105 132 this).toInt := by rw [hg_151.2.1 132 (by decide) (by decide)]
          have tt_156 : (I_149 134 this).toInt = (I_105 134 this).toInt := by rw [hg_151.2.1 134 (by decide) (by decide)]
          have tt_157 : (I_149 197 this_scanner).toInt = (I_105 197 this_scanner).toInt := by rw [hg_151.2.1 197 (by decide) (by decide)]
          have tt_158 : (I_149 194 this_scanner).toInt = (I_105 194 this_scanner).toInt := by rw [hg_151.2.1 194 (by decide) (by decide)]
          refine lv_aload_n hx hb dX4_readKey_85 rfl (lv_at hl 1 rfl) ?_
          refine lv_iload_n hx hb dX4_readKey_86 rfl (lv_at hl 0 rfl) ?_
          refine lv_if_eq (tgt := 101) hx hb dX4_readKey_87 (by decide) (fun c_159 => absurd c_159 (by decide)) (fun c_159 => ?_)
          refine lv_aload_n hx hb dX4_readKey_90 rfl (lv_at hl 1 rfl) ?_
          refine pg_f (v := .ref this_scanner) (C := RX4) (T := TX4) (N := 12) hx hb hts (tw_i inlX4) hown hK hP hL_this hK_this (by decide) rfl 0 (by decide) (hts _ (tw_c tw_154)) (pq_hv rfl hR_this_scanner) dX4_readKey_91 ?_
          refine pg_f (v := .int (I_149 194 this_scanner)) (C := RX6) (T := TX6) (N := 6) hx hb hts (tw_i inlX6) hown hK hP hL_this_scanner hK_this_scanner (by decide) rfl 2 (by decide) (hts _ (tw_c tw_657)) rfl dX4_readKey_94 ?_
          refine lv_ineg hx hb dX4_readKey_97 ?_
          refine lv_topi (fun x_160 ex_160 => ?_)
          refine lv_goto (tgt := 108) hx hb dX4_readKey_98 (by decide) ?_
          refine pk_v (va_runV (As := [.int x_160]) (rest := []) ⟨hx, hb, hml, hown, hts⟩ (s_X4_emit l D t σ I_149 J ri rj rq H.size tg hSH hG.1 this x_160 hL_this hK_this) (cwV 1 hts (tw_V tw_769 tw_770 tw_771 tw_25 tw_772) rfl rfl rfl cv_yX4_emit_1 ⟨Nat.le_of_ble_eq_true rfl, Nat.le_of_ble_eq_true rfl⟩) ⟨pq_blind, pq_recv hK hP hL_this hK_this (by decide) rfl, pq_pre hK hN hP hD⟩ rfl rfl hl.1 rfl (lv_room (Nat.le_of_ble_eq_true rfl)) dX4_readKey_108 ⟨Nat.le_of_ble_eq_true rfl, Nat.le_of_ble_eq_true rfl⟩) hD hS hA (fun σ1 μ1 H locs hw_162 hP hD hS => ?_)
          obtain ⟨I_163, ri_164, hu_165, hg_166, hp_168, hp_169⟩ := hw_162
          obtain ⟨hu_165a, hu_165b⟩ := Prod.mk.inj hu_165
          rw [hu_165a, hu_165b] at hP hD
          have tt_170 := hp_168
          have tt_171 := hp_169
          have hG := GX.tr hG hg_166 (by decide)
          have tt_172 : (I_163 134 this).toInt = (I_149 134 this).toInt := by rw [hg_166.2.1 134 (by decide) (by decide)]
          have tt_173 : (I_163 129 this).toInt = (I_149 129 this).toInt := by rw [hg_166.2.1 129 (by decide) (by decide)]
          have tt_174 : (I_163 197 this_scanner).toInt = (I_149 197 this_scanner).toInt := by rw [hg_166.2.1 197 (by decide) (by decide)]
          have tt_175 : (I_163 194 this_scanner).toInt = (I_149 194 this_scanner).toInt := by rw [hg_166.2.1 194 (by decide) (by decide)]
          subst hQ
          exact W.vret hx hb hr (fun t1 ht hW => ⟨⟨(σ, I_163, J, ri_164, rj, rq), rfl, ⟨I_163, ri_164, rfl, hG, (by omega), (ft_t (fun _ _ => rfl) hp_169)⟩, by rw [ht]; exact hP, va_K.moved hW.alike hK, hD⟩, hS.F ht⟩) hS.2.2 dX4_readKey_111
      · have tc_176 : 4 ≤ (a0).toInt := Int32.le_iff_toInt_le.mp (nlt c_99)
        have h_177 : rg a0 4 2147483647 := rg_le2 (nlt c_99) (rg_k (4 : Int32) 4 rfl) (rg_full _) (by decide)
        have uh_177 := h_177.1
        have vh_177 := h_177.2
        refine lv_aload_n hx hb dX4_readKey_48 rfl (lv_at hl 1 rfl) ?_
        refine lv_iconst (v := 5) hx hb dX4_readKey_49 (by decide) ?_
        refine pk_v (va_runV (As := [.int 5]) (rest := []) ⟨hx, hb, hml, hown, hts⟩ (s_X4_refuse l D t σ I J ri rj rq H.size tg hSH hG.1 this (5 : Int32) hL_this hK_this (rg_w (rg_k (5 : Int32) 5 rfl) (by decide))) (cwV 1 hts (tw_V tw_748 tw_749 tw_750 tw_25 tw_751) rfl rfl rfl cv_yX4_refuse_1 ⟨Nat.le_of_ble_eq_true rfl, Nat.le_of_ble_eq_true rfl⟩) ⟨pq_blind, pq_recv hK hP hL_this hK_this (by decide) rfl, pq_pre hK hN hP hD⟩ rfl rfl hl.1 rfl (lv_room (Nat.le_of_ble_eq_true rfl)) dX4_readKey_50 ⟨Nat.le_of_ble_eq_true rfl, Nat.le_of_ble_eq_true rfl⟩) hD hS hA (fun σ1 μ1 H locs hw_179 hP hD hS => ?_)
        obtain ⟨I_180, hu_181, hg_182, hp_184⟩ := hw_179
        obtain ⟨hu_181a, hu_181b⟩ := Prod.mk.inj hu_181
        rw [hu_181a, hu_181b] at hP hD
        have tt_185 := hp_184
        have hG := GX.tr hG hg_182 (by decide)
        have tt_186 : (I_180 132 this).toInt = (I 132 this).toInt := by rw [hg_182.2.1 132 (by decide) (by decide)]
        have tt_187 : (I_180 134 this).toInt = (I 134 this).toInt := by rw [hg_182.2.1 134 (by decide) (by decide)]
        have tt_188 : (I_180 197 this_scanner).toInt = (I 197 this_scanner).toInt := by rw [hg_182.2.1 197 (by decide) (by decide)]
        have tt_189 : (I_180 194 this_scanner).toInt = (I 194 this_scanner).toInt := by rw [hg_182.2.1 194 (by decide) (by decide)]
        refine lv_goto (tgt := 85) hx hb dX4_readKey_53 (by decide) ?_
        refine lv_aload_n hx hb dX4_readKey_85 rfl (lv_at hl 1 rfl) ?_
        refine lv_iload_n hx hb dX4_readKey_86 rfl (lv_at hl 0 rfl) ?_
        refine lv_if_eq (tgt := 101) hx hb dX4_readKey_87 (by decide) (fun c_190 => absurd c_190 (by decide)) (fun c_190 => ?_)
        refine lv_aload_n hx hb dX4_readKey_90 rfl (lv_at hl 1 rfl) ?_
        refine pg_f (v := .ref this_scanner) (C := RX4) (T := TX4) (N := 12) hx hb hts (tw_i inlX4) hown hK hP hL_this hK_this (by decide) rfl 0 (by decide) (hts _ (tw_c tw_154)) (pq_hv rfl hR_this_scanner) dX4_readKey_91 ?_
        refine pg_f (v := .int (I_180 194 this_scanner)) (C := RX6) (T := TX6) (N := 6) hx hb hts (tw_i inlX6) hown hK hP hL_this_scanner hK_this_scanner (by decide) rfl 2 (by decide) (hts _ (tw_c tw_657)) rfl dX4_readKey_94 ?_
        have h_191 : rg (I_180 194 this_scanner) 26 26 := (by rw [hg_182.2.1 194 (by decide) (by decide)]; exact h_97)
        have uh_191 := h_191.1
        have vh_191 := h_191.2
        refine lv_ineg hx hb dX4_readKey_97 ?_
        refine lv_topi (fun x_192 ex_192 => ?_)
        have h_193 : rg x_192 (-26) (-26) := rg_of_eq ex_192 (rg_neg h_191 (by decide))
        have uh_193 := h_193.1
        have vh_193 := h_193.2
        refine lv_goto (tgt := 108) hx hb dX4_readKey_98 (by decide) ?_
        refine pk_v (va_runV (As := [.int x_192]) (rest := []) ⟨hx, hb, hml, hown, hts⟩ (s_X4_emit l D t σ I_180 J ri rj rq H.size tg hSH hG.1 this x_192 hL_this hK_this) (cwV 1 hts (tw_V tw_769 tw_770 tw_771 tw_25 tw_772) rfl rfl rfl cv_yX4_emit_1 ⟨Nat.le_of_ble_eq_true rfl, Nat.le_of_ble_eq_true rfl⟩) ⟨pq_blind, pq_recv hK hP hL_this hK_this (by decide) rfl, pq_pre hK hN hP hD⟩ rfl rfl hl.1 rfl (lv_room (Nat.le_of_ble_eq_true rfl)) dX4_readKey_108 ⟨Nat.le_of_ble_eq_true rfl, Nat.le_of_ble_eq_true rfl⟩) hD hS hA (fun σ1 μ1 H locs hw_195 hP hD hS => ?_)
        obtain ⟨I_196, ri_197, hu_198, hg_199, hp_201, hp_202⟩ := hw_195
        obtain ⟨hu_198a, hu_198b⟩ := Prod.mk.inj hu_198
        rw [hu_198a, hu_198b] at hP hD
        have tt_203 := hp_201
        have tt_204 := hp_202
        have hG := GX.tr hG hg_199 (by decide)
        have tt_205 : (I_196 134 this).toInt = (I_180 134 this).toInt := by rw [hg_199.2.1 134 (by decide) (by decide)]
        have tt_206 : (I_196 129 this).toInt = (I_180 129 this).toInt := by rw [hg_199.2.1 129 (by decide) (by decide)]
        have tt_207 : (I_196 197 this_scanner).toInt = (I_180 197 this_scanner).toInt := by rw [hg_199.2.1 197 (by decide) (by decide)]
        have tt_208 : (I_196 194 this_scanner).toInt = (I_180 194 this_scanner).toInt := by rw [hg_199.2.1 194 (by decide) (by decide)]
        subst hQ
        exact W.vret hx hb hr (fun t1 ht hW => ⟨⟨(σ, I_196, J, ri_197, rj, rq), rfl, ⟨I_196, ri_197, rfl, hG, (by omega), (ft_t (fun _ _ => rfl) hp_202)⟩, by rw [ht]; exact hP, va_K.moved hW.alike hK, hD⟩, hS.F ht⟩) hS.2.2 dX4_readKey_111
  exact go _ _ _ hP hD hS hl

set_option maxHeartbeats 4000000 in
set_option maxRecDepth 100000 in
theorem s_X4_readKeys (l : Launch) (D : va_G) (t : pq_T) (σ : pq_S) (I : Nat → Nat → Int32) (J : Nat → Nat → Int64) (ri : Nat → Nat → Int32) (rj : Nat → Nat → Int64) (rq : Nat → Nat → Option Nat) (sz : Nat) (aK aV : Nat) (vF : Value) (tg : Nat → Nat) (hSH : SH σ tg) (hG0 : GS tg σ I ri rq) (this : Nat) (hL_this : this ∈ σ.1) (hK_this : σ.2.1 this = 4) (this_scanner : Nat) (hR_this_scanner : σ.2.2.1 128 this = some this_scanner) (hL_this_scanner : this_scanner ∈ σ.1) (hK_this_scanner : σ.2.1 this_scanner = 6) (hca : (I 132 this).toInt ≤ (I 197 this_scanner).toInt) : MetVS aK aV vF l yX4_readKeys (wa yX4_readKeys cX4_readKeys 3 none) ({ frames := 7, cells := 0, slots := 0, locals := 151 }) [.ref this] D t σ (I, J, ri, rj, rq) sz 0 0 (fun (u : pq_S × pq_M) => ∃ I' : Nat → Nat → Int32, ∃ ri' : Nat → Nat → Int32, u = (σ, I', J, ri', rj, rq) ∧ GX [129, 197, 194, 132] tg σ I ri rj I' ri' rj rq ∧ (((I' 129 this).toInt = 0 → (I' 132 this).toInt ≤ (I' 197 this_scanner).toInt)) ∧ (∀ q, tg q = 258 → ri' q = ri q)) := by
  refine Met.ofW (cc := cX4_readKeys) (maxL := 3) (ret := none) (by decide) rfl ?_
  intro p e s m args below meth c s₁ B hml hv
  obtain ⟨rfl, ⟨hsz, hP, hK, hD0, hN⟩, hW0⟩ := hv
  have hx := B.exec
  have hb := B.bytes
  have hr := B.returns
  have hts := atoms_spec (ws := (wa yX4_readKeys cX4_readKeys 3 none)) B.pre
  have hown : s.vm.findClass RX4 = some m.cls := findClass_of_methodNamed B.named
  have hlocks := B.notSynchronized
  subst hsz
  have hD : va_D (pq_B t σ (I, J, ri, rj, rq) s.heap.size) (pq_P t σ (I, J, ri, rj, rq)) := hD0.self
  generalize hAe : pq_B t σ (I, J, ri, rj, rq) s.heap.size = A at hD hW0 ⊢
  have hA : ∀ q : Nat, s.heap.size ≤ q → A q := fun q h => by rw [← hAe]; exact Or.inr h
  have hS : va_S A s.heap s.heap [] := va_S.rf
  have hG : GX [129, 197, 194, 132] tg σ I ri rj I ri rj rq := ⟨hG0, fun _ _ _ => rfl, fun _ _ _ _ _ => rfl, fun _ _ _ _ _ => rfl⟩
  have hl := lv_entry ([.ref this]) (n := 3) (Nat.le_of_ble_eq_true rfl)
  rw [lg_entry_eq]
  generalize (lg_sl ([.ref this]) ++ List.replicate (3 - (lg_sl ([.ref this])).length) Slot.unset).toArray = ls at hl ⊢
  have hl : lv_has ls 3 [(0, .ref this)] := hl
  refine q_gen (fun Q hQ => ?_)
  have go : ∀ (H : Heap) (locs : List Loc) (ls : Array Slot), va_P D vwCl (pq_P t σ (I, J, ri, rj, rq)) H → va_D A (pq_P t σ (I, J, ri, rj, rq)) → va_S A s.heap H locs → lv_has ls 3 [(0, .ref this)] → W p l e ({ frames := 7, cells := 0, slots := 0, locals := 151 } : Room) s m (List.toArray ([.ref this] : List Value)) below meth c H locs 0 0 Q (F0 m 0 ls []) := by
    intro H locs ls hP hD hS hl
    refine lv_iconst (v := 0) hx hb dX4_readKeys_0 (by decide) ?_
    refine lv_istore_n (lv' := [(1, .int 0), (0, .ref this)]) hx hb dX4_readKeys_1 rfl hl (by decide) rfl (fun ls hl => ?_)
    refine lv_iconst (v := 1) hx hb dX4_readKeys_2 (by decide) ?_
    refine lv_istore_n (lv' := [(2, .int 1), (1, .int 0), (0, .ref this)]) hx hb dX4_readKeys_3 rfl hl (by decide) rfl (fun ls hl => ?_)
    have L_678 : ∀ (n_677 : Nat) (x_566 : Int32) (x_567 : Int32) (I_568 : Nat → Nat → Int32) (ri_569 : Nat → Nat → Int32) (H : Heap) (locs : List Loc) (ls : Array Slot), rg x_566 0 5 → rg x_567 0 1 → (((I_568 129 this).toInt = 0 → (I_568 132 this).toInt ≤ (I_568 197 this_scanner).toInt)) → (∀ q, tg q = 258 → ri_569 q = ri q) → (5 - (x_566).toInt).toNat < n_677 → GX [129, 197, 194, 132] tg σ I ri rj I_568 ri_569 rj rq → va_P D vwCl (pq_P t σ (I_568, J, ri_569, rj, rq)) H → va_D A (pq_P t σ (I_568, J, ri_569, rj, rq)) → va_S A s.heap H locs → lv_has ls 3 [(0, .ref this), (1, .int x_566), (2, .int x_567)] → W p l e ({ frames := 7, cells := 0, slots := 0, locals := 151 } : Room) s m (List.toArray ([.ref this] : List Value)) below meth c H locs 0 0 Q (F0 m 4 ls []) := by
      intro n_677
      induction n_677 with
      | zero => intro x_566 x_567 I_568 ri_569 H locs ls h_684 h_685 hrel_686 hrel_687 hm_676 hG hP hD hS hl; exact absurd hm_676 (Nat.not_lt_zero _)
      | succ n_677 ih_679 =>
        intro x_566 x_567 I_568 ri_569 H locs ls h_684 h_685 hrel_686 hrel_687 hm_676 hG hP hD hS hl
        have uh_684 := h_684.1
        have vh_684 := h_684.2
        have uh_685 := h_685.1
        have vh_685 := h_685.2
        refine lv_iload_n hx hb dX4_readKeys_4 rfl (lv_at hl 2 rfl) ?_
        refine lv_if_eq (tgt := 70) hx hb dX4_readKeys_5 (by decide) (fun c_688 => ?_) (fun c_688 => ?_)
        · have tc_689 : (x_567).toInt = 0 := congrArg Int32.toInt c_688
          have h_690 : rg x_567 0 0 := rg_and h_685 (rg_of_eq c_688 (rg_k (0 : Int32) 0 rfl)) (by decide)
          have uh_690 := h_690.1
          have vh_690 := h_690.2
          refine lv_aload_n hx hb dX4_readKeys_70 rfl (lv_at hl 0 rfl) ?_
          refine pk_v (va_runV (As := []) (rest := []) ⟨hx, hb, hml, hown, hts⟩ (s_X4_expectSemicolon l D t σ I_568 J ri_569 rj rq H.size tg hSH hG.1 this hL_this hK_this) (cwV 0 hts (tw_V tw_805 tw_806 tw_807 tw_25 tw_808) rfl rfl rfl cv_yX4_expectSemicolon_0 ⟨Nat.le_of_ble_eq_true rfl, Nat.le_of_ble_eq_true rfl⟩) ⟨pq_blind, pq_recv hK hP hL_this hK_this (by decide) rfl, pq_pre hK hN hP hD⟩ rfl rfl hl.1 rfl (lv_room (Nat.le_of_ble_eq_true rfl)) dX4_readKeys_71 ⟨Nat.le_of_ble_eq_true rfl, Nat.le_of_ble_eq_true rfl⟩) hD hS hA (fun σ1 μ1 H locs hw_692 hP hD hS => ?_)
          obtain ⟨I_693, hu_694, hg_695, hp_697⟩ := hw_692
          obtain ⟨hu_694a, hu_694b⟩ := Prod.mk.inj hu_694
          rw [hu_694a, hu_694b] at hP hD
          have tt_698 := hp_697
          have hG := GX.tr hG hg_695 (by decide)
          have tt_699 : (I_693 132 this).toInt = (I_568 132 this).toInt := by rw [hg_695.2.1 132 (by decide) (by decide)]
          have tt_700 : (I_693 134 this).toInt = (I_568 134 this).toInt := by rw [hg_695.2.1 134 (by decide) (by decide)]
          have tt_701 : (I_693 197 this_scanner).toInt = (I_568 197 this_scanner).toInt := by rw [hg_695.2.1 197 (by decide) (by decide)]
          have tt_702 : (I_693 194 this_scanner).toInt = (I_568 194 this_scanner).toInt := by rw [hg_695.2.1 194 (by decide) (by decide)]
          subst hQ
          exact W.vret hx hb hr (fun t1 ht hW => ⟨⟨(σ, I_693, J, ri_569, rj, rq), rfl, ⟨I_693, ri_569, rfl, hG, (by omega), hrel_687⟩, by rw [ht]; exact hP, va_K.moved hW.alike hK, hD⟩, hS.F ht⟩) hS.2.2 dX4_readKeys_74
        · have tc_703 : (x_567).toInt ≠ 0 := fun q => c_688 (Int32.toInt_inj.mp q)
          have h_704 : rg x_567 1 1 := rg_ne c_688 h_685 0 rfl (by decide)
          have uh_704 := h_704.1
          have vh_704 := h_704.2
          refine lv_iload_n hx hb dX4_readKeys_8 rfl (lv_at hl 1 rfl) ?_
          refine lv_iconst (v := 4) hx hb dX4_readKeys_9 (by decide) ?_
          refine lv_icmp_gt (tgt := 70) hx hb dX4_readKeys_10 (by decide) (fun c_705 => ?_) (fun c_705 => ?_)
          · have tc_706 : 4 < (x_566).toInt := Int32.lt_iff_toInt_lt.mp c_705
            have h_707 : rg x_566 5 5 := rg_lt2 c_705 (rg_k (4 : Int32) 4 rfl) h_684 (by decide)
            have uh_707 := h_707.1
            have vh_707 := h_707.2
            refine lv_aload_n hx hb dX4_readKeys_70 rfl (lv_at hl 0 rfl) ?_
            refine pk_v (va_runV (As := []) (rest := []) ⟨hx, hb, hml, hown, hts⟩ (s_X4_expectSemicolon l D t σ I_568 J ri_569 rj rq H.size tg hSH hG.1 this hL_this hK_this) (cwV 0 hts (tw_V tw_805 tw_806 tw_807 tw_25 tw_808) rfl rfl rfl cv_yX4_expectSemicolon_0 ⟨Nat.le_of_ble_eq_true rfl, Nat.le_of_ble_eq_true rfl⟩) ⟨pq_blind, pq_recv hK hP hL_this hK_this (by decide) rfl, pq_pre hK hN hP hD⟩ rfl rfl hl.1 rfl (lv_room (Nat.le_of_ble_eq_true rfl)) dX4_readKeys_71 ⟨Nat.le_of_ble_eq_true rfl, Nat.le_of_ble_eq_true rfl⟩) hD hS hA (fun σ1 μ1 H locs hw_709 hP hD hS => ?_)
            obtain ⟨I_710, hu_711, hg_712, hp_714⟩ := hw_709
            obtain ⟨hu_711a, hu_711b⟩ := Prod.mk.inj hu_711
            rw [hu_711a, hu_711b] at hP hD
            have tt_715 := hp_714
            have hG := GX.tr hG hg_712 (by decide)
            have tt_716 : (I_710 132 this).toInt = (I_568 132 this).toInt := by rw [hg_712.2.1 132 (by decide) (by decide)]
            have tt_717 : (I_710 134 this).toInt = (I_568 134 this).toInt := by rw [hg_712.2.1 134 (by decide) (by decide)]
            have tt_718 : (I_710 197 this_scanner).toInt = (I_568 197 this_scanner).toInt := by rw [hg_712.2.1 197 (by decide) (by decide)]
            have tt_719 : (I_710 194 this_scanner).toInt = (I_568 194 this_scanner).toInt := by rw [hg_712.2.1 194 (by decide) (by decide)]
            subst hQ
            exact W.vret hx hb hr (fun t1 ht hW => ⟨⟨(σ, I_710, J, ri_569, rj, rq), rfl, ⟨I_710, ri_569, rfl, hG, (by omega), hrel_687⟩, by rw [ht]; exact hP, va_K.moved hW.alike hK, hD⟩, hS.F ht⟩) hS.2.2 dX4_readKeys_74
          · have tc_720 : (x_566).toInt ≤ 4 := Int32.le_iff_toInt_le.mp (nlt c_705)
            have h_721 : rg x_566 0 4 := rg_le1 (nlt c_705) h_684 (rg_k (4 : Int32) 4 rfl) (by decide)
            have uh_721 := h_721.1
            have vh_721 := h_721.2
            refine lv_aload_n hx hb dX4_readKeys_13 rfl (lv_at hl 0 rfl) ?_
            refine pg_f (v := .int (I_568 129 this)) (C := RX4) (T := TX4) (N := 12) hx hb hts (tw_i inlX4) hown hK hP hL_this hK_this (by decide) rfl 1 (by decide) (hts _ (tw_c tw_155)) rfl dX4_readKeys_14 ?_
            refine lv_if_ne (tgt := 70) hx hb dX4_readKeys_17 (by decide) (fun c_722 => ?_) (fun c_722 => ?_)
            · have tc_723 : (I_568 129 this).toInt ≠ 0 := fun q => c_722 (Int32.toInt_inj.mp q)
              refine lv_aload_n hx hb dX4_readKeys_70 rfl (lv_at hl 0 rfl) ?_
              refine pk_v (va_runV (As := []) (rest := []) ⟨hx, hb, hml, hown, hts⟩ (s_X4_expectSemicolon l D t σ I_568 J ri_569 rj rq H.size tg hSH hG.1 this hL_this hK_this) (cwV 0 hts (tw_V tw_805 tw_806 tw_807 tw_25 tw_808) rfl rfl rfl cv_yX4_expectSemicolon_0 ⟨Nat.le_of_ble_eq_true rfl, Nat.le_of_ble_eq_true rfl⟩) ⟨pq_blind, pq_recv hK hP hL_this hK_this (by decide) rfl, pq_pre hK hN hP hD⟩ rfl rfl hl.1 rfl (lv_room (Nat.le_of_ble_eq_true rfl)) dX4_readKeys_71 ⟨Nat.le_of_ble_eq_true rfl, Nat.le_of_ble_eq_true rfl⟩) hD hS hA (fun σ1 μ1 H locs hw_725 hP hD hS => ?_)
              obtain ⟨I_726, hu_727, hg_728, hp_730⟩ := hw_725
              obtain ⟨hu_727a, hu_727b⟩ := Prod.mk.inj hu_727
              rw [hu_727a, hu_727b] at hP hD
              have tt_731 := hp_730
              have hG := GX.tr hG hg_728 (by decide)
              have tt_732 : (I_726 132 this).toInt = (I_568 132 this).toInt := by rw [hg_728.2.1 132 (by decide) (by decide)]
              have tt_733 : (I_726 134 this).toInt = (I_568 134 this).toInt := by rw [hg_728.2.1 134 (by decide) (by decide)]
              have tt_734 : (I_726 197 this_scanner).toInt = (I_568 197 this_scanner).toInt := by rw [hg_728.2.1 197 (by decide) (by decide)]
              have tt_735 : (I_726 194 this_scanner).toInt = (I_568 194 this_scanner).toInt := by rw [hg_728.2.1 194 (by decide) (by decide)]
              subst hQ
              exact W.vret hx hb hr (fun t1 ht hW => ⟨⟨(σ, I_726, J, ri_569, rj, rq), rfl, ⟨I_726, ri_569, rfl, hG, (by omega), hrel_687⟩, by rw [ht]; exact hP, va_K.moved hW.alike hK, hD⟩, hS.F ht⟩) hS.2.2 dX4_readKeys_74
            · have tc_736 : (I_568 129 this).toInt = 0 := congrArg Int32.toInt c_722
              have h_737 : rg (I_568 129 this) 0 0 := rg_and (rg_full _) (rg_of_eq c_722 (rg_k (0 : Int32) 0 rfl)) (by decide)
              have uh_737 := h_737.1
              have vh_737 := h_737.2
              refine lv_aload_n hx hb dX4_readKeys_20 rfl (lv_at hl 0 rfl) ?_
              refine pg_f (v := .ref this_scanner) (C := RX4) (T := TX4) (N := 12) hx hb hts (tw_i inlX4) hown hK hP hL_this hK_this (by decide) rfl 0 (by decide) (hts _ (tw_c tw_154)) (pq_hv rfl hR_this_scanner) dX4_readKeys_21 ?_
              refine pk_v (va_runV (As := []) (rest := []) ⟨hx, hb, hml, hown, hts⟩ (s_X6_advance l D t σ I_568 J ri_569 rj rq H.size aK aV vF tg hSH hG.1 this_scanner hL_this_scanner hK_this_scanner) (cwV 0 hts (tw_V tw_663 tw_664 tw_665 tw_153 tw_666) rfl rfl rfl cv_yX6_advance_0 ⟨Nat.le_of_ble_eq_true rfl, Nat.le_of_ble_eq_true rfl⟩) ⟨pq_blindS, pq_recv hK hP hL_this_scanner hK_this_scanner (by decide) rfl, pq_preS hK hN hP hD hS hA hW0⟩ rfl rfl hl.1 rfl (lv_room (Nat.le_of_ble_eq_true rfl)) dX4_readKeys_24 ⟨Nat.le_of_ble_eq_true rfl, Nat.le_of_ble_eq_true rfl⟩) hD hS hA (fun σ1 μ1 H locs hw_739 hP hD hS => ?_)
              obtain ⟨I_740, hu_741, hg_742, hp_744, hp_745⟩ := hw_739
              obtain ⟨hu_741a, hu_741b⟩ := Prod.mk.inj hu_741
              rw [hu_741a, hu_741b] at hP hD
              have tt_746 := hp_744
              have tt_747 := hp_745
              have hG := GX.tr hG hg_742 (by decide)
              have tt_748 : (I_740 132 this).toInt = (I_568 132 this).toInt := by rw [hg_742.2.1 132 (by decide) (by decide)]
              have tt_749 : (I_740 134 this).toInt = (I_568 134 this).toInt := by rw [hg_742.2.1 134 (by decide) (by decide)]
              have tt_750 : (I_740 129 this).toInt = (I_568 129 this).toInt := by rw [hg_742.2.1 129 (by decide) (by decide)]
              refine lv_aload_n hx hb dX4_readKeys_27 rfl (lv_at hl 0 rfl) ?_
              refine lv_iload_n hx hb dX4_readKeys_28 rfl (lv_at hl 1 rfl) ?_
              refine pk_v (va_runV (As := [.int x_566]) (rest := []) ⟨hx, hb, hml, hown, hts⟩ (s_X4_readKey l D t σ I_740 J ri_569 rj rq H.size aK aV vF tg hSH hG.1 this x_566 hL_this hK_this this_scanner hR_this_scanner hL_this_scanner hK_this_scanner) (cwV 1 hts (tw_V tw_801 tw_802 tw_803 tw_25 tw_804) rfl rfl rfl cv_yX4_readKey_1 ⟨Nat.le_of_ble_eq_true rfl, Nat.le_of_ble_eq_true rfl⟩) ⟨pq_blindS, pq_recv hK hP hL_this hK_this (by decide) rfl, pq_preS hK hN hP hD hS hA hW0⟩ rfl rfl hl.1 rfl (lv_room (Nat.le_of_ble_eq_true rfl)) dX4_readKeys_29 ⟨Nat.le_of_ble_eq_true rfl, Nat.le_of_ble_eq_true rfl⟩) hD hS hA (fun σ1 μ1 H locs hw_752 hP hD hS => ?_)
              obtain ⟨I_753, ri_754, hu_755, hg_756, hp_758, hp_759⟩ := hw_752
              obtain ⟨hu_755a, hu_755b⟩ := Prod.mk.inj hu_755
              rw [hu_755a, hu_755b] at hP hD
              have tt_760 := hp_758
              have tt_761 := hp_759
              have hG := GX.tr hG hg_756 (by decide)
              have tt_762 : (I_753 134 this).toInt = (I_740 134 this).toInt := by rw [hg_756.2.1 134 (by decide) (by decide)]
              obtain ⟨x_763, ex_763⟩ : ∃ y : Int32, y = x_566 + Int32.ofInt 1 := ⟨_, rfl⟩
              have h_764 : rg x_763 1 5 := rg_of_eq ex_763 (rg_add h_721 (rg_k (Int32.ofInt 1) 1 rfl) (by decide))
              have uh_764 := h_764.1
              have vh_764 := h_764.2
              have tx_763 : (x_763).toInt = (x_566).toInt + 1 := by rw [ex_763]; exact i_add_rg (a2 := (x_566).toInt) (b2 := 1) rfl rfl h_721 (rg_k (Int32.ofInt 1) 1 rfl) (by decide)
              refine lv_iinc (v := x_763) (lv' := [(1, .int x_763), (0, .ref this), (2, .int x_567)]) hx hb dX4_readKeys_32 hl (k := 1) rfl ex_763.symm (by decide) rfl (fun ls hl => ?_)
              refine lv_aload_n hx hb dX4_readKeys_35 rfl (lv_at hl 1 rfl) ?_
              refine pg_f (v := .int (I_753 129 this)) (C := RX4) (T := TX4) (N := 12) hx hb hts (tw_i inlX4) hown hK hP hL_this hK_this (by decide) rfl 1 (by decide) (hts _ (tw_c tw_155)) rfl dX4_readKeys_36 ?_
              refine lv_if_ne (tgt := 49) hx hb dX4_readKeys_39 (by decide) (fun c_765 => ?_) (fun c_765 => ?_)
              · have tc_766 : (I_753 129 this).toInt ≠ 0 := fun q => c_765 (Int32.toInt_inj.mp q)
                refine lv_aload_n hx hb dX4_readKeys_49 rfl (lv_at hl 1 rfl) ?_
                refine pg_f (v := .ref this_scanner) (C := RX4) (T := TX4) (N := 12) hx hb hts (tw_i inlX4) hown hK hP hL_this hK_this (by decide) rfl 0 (by decide) (hts _ (tw_c tw_154)) (pq_hv rfl hR_this_scanner) dX4_readKeys_50 ?_
                refine pg_f (v := .int (I_753 194 this_scanner)) (C := RX6) (T := TX6) (N := 6) hx hb hts (tw_i inlX6) hown hK hP hL_this_scanner hK_this_scanner (by decide) rfl 2 (by decide) (hts _ (tw_c tw_657)) rfl dX4_readKeys_53 ?_
                refine lv_bipush (v := 31) hx hb dX4_readKeys_56 (by decide) ?_
                refine lv_icmp_ne (tgt := 65) hx hb dX4_readKeys_58 (by decide) (fun c_767 => ?_) (fun c_767 => ?_)
                · have tc_768 : (I_753 194 this_scanner).toInt ≠ 31 := fun q => c_767 (Int32.toInt_inj.mp q)
                  refine lv_iconst (v := 0) hx hb dX4_readKeys_65 (by decide) ?_
                  refine lv_istore_n (lv' := [(2, .int 0), (1, .int x_763), (0, .ref this)]) hx hb dX4_readKeys_66 rfl hl (by decide) rfl (fun ls hl => ?_)
                  refine lv_goto (tgt := 4) hx hb dX4_readKeys_67 (by decide) ?_
                  exact ih_679 x_763 (0 : Int32) I_753 ri_754 _ _ _ (rg_w h_764 (by decide)) (rg_w (rg_k (0 : Int32) 0 rfl) (by decide)) (by have k0 : (0 : Int32).toInt = 0 := rfl; omega) (ft_t hrel_687 hp_759) (ms_up 1 hm_676 ex_763 rfl (by decide) h_721 (by decide) (by decide)) hG hP hD hS (lv_sub hl [2, 1, 0] rfl)
                · have tc_769 : (I_753 194 this_scanner).toInt = 31 := congrArg Int32.toInt c_767
                  have h_770 : rg (I_753 194 this_scanner) 31 31 := rg_and (rg_full _) (rg_of_eq c_767 (rg_k (31 : Int32) 31 rfl)) (by decide)
                  have uh_770 := h_770.1
                  have vh_770 := h_770.2
                  refine lv_iconst (v := 1) hx hb dX4_readKeys_61 (by decide) ?_
                  refine lv_goto (tgt := 66) hx hb dX4_readKeys_62 (by decide) ?_
                  refine lv_istore_n (lv' := [(2, .int 1), (1, .int x_763), (0, .ref this)]) hx hb dX4_readKeys_66 rfl hl (by decide) rfl (fun ls hl => ?_)
                  refine lv_goto (tgt := 4) hx hb dX4_readKeys_67 (by decide) ?_
                  exact ih_679 x_763 (1 : Int32) I_753 ri_754 _ _ _ (rg_w h_764 (by decide)) (rg_w (rg_k (1 : Int32) 1 rfl) (by decide)) (by have k0 : (1 : Int32).toInt = 1 := rfl; omega) (ft_t hrel_687 hp_759) (ms_up 1 hm_676 ex_763 rfl (by decide) h_721 (by decide) (by decide)) hG hP hD hS (lv_sub hl [2, 1, 0] rfl)
              · have tc_771 : (I_753 129 this).toInt = 0 := congrArg Int32.toInt c_765
                have h_772 : rg (I_753 129 this) 0 0 := rg_and (rg_full _) (rg_of_eq c_765 (rg_k (0 : Int32) 0 rfl)) (by decide)
                have uh_772 := h_772.1
                have vh_772 := h_772.2
                refine lv_aload_n hx hb dX4_readKeys_42 rfl (lv_at hl 1 rfl) ?_
                refine pg_f (v := .ref this_scanner) (C := RX4) (T := TX4) (N := 12) hx hb hts (tw_i inlX4) hown hK hP hL_this hK_this (by decide) rfl 0 (by decide) (hts _ (tw_c tw_154)) (pq_hv rfl hR_this_scanner) dX4_readKeys_43 ?_
                refine pk_v (va_runV (As := []) (rest := []) ⟨hx, hb, hml, hown, hts⟩ (s_X6_advance l D t σ I_753 J ri_754 rj rq H.size aK aV vF tg hSH hG.1 this_scanner hL_this_scanner hK_this_scanner) (cwV 0 hts (tw_V tw_663 tw_664 tw_665 tw_153 tw_666) rfl rfl rfl cv_yX6_advance_0 ⟨Nat.le_of_ble_eq_true rfl, Nat.le_of_ble_eq_true rfl⟩) ⟨pq_blindS, pq_recv hK hP hL_this_scanner hK_this_scanner (by decide) rfl, pq_preS hK hN hP hD hS hA hW0⟩ rfl rfl hl.1 rfl (lv_room (Nat.le_of_ble_eq_true rfl)) dX4_readKeys_46 ⟨Nat.le_of_ble_eq_true rfl, Nat.le_of_ble_eq_true rfl⟩) hD hS hA (fun σ1 μ1 H locs hw_774 hP hD hS => ?_)
                obtain ⟨I_775, hu_776, hg_777, hp_779, hp_780⟩ := hw_774
                obtain ⟨hu_776a, hu_776b⟩ := Prod.mk.inj hu_776
                rw [hu_776a, hu_776b] at hP hD
                have tt_781 := hp_779
                have tt_782 := hp_780
                have hG := GX.tr hG hg_777 (by decide)
                have tt_783 : (I_775 132 this).toInt = (I_753 132 this).toInt := by rw [hg_777.2.1 132 (by decide) (by decide)]
                have tt_784 : (I_775 134 this).toInt = (I_753 134 this).toInt := by rw [hg_777.2.1 134 (by decide) (by decide)]
                have tt_785 : (I_775 129 this).toInt = (I_753 129 this).toInt := by rw [hg_777.2.1 129 (by decide) (by decide)]
                refine lv_aload_n hx hb dX4_readKeys_49 rfl (lv_at hl 1 rfl) ?_
                refine pg_f (v := .ref this_scanner) (C := RX4) (T := TX4) (N := 12) hx hb hts (tw_i inlX4) hown hK hP hL_this hK_this (by decide) rfl 0 (by decide) (hts _ (tw_c tw_154)) (pq_hv rfl hR_this_scanner) dX4_readKeys_50 ?_
                refine pg_f (v := .int (I_775 194 this_scanner)) (C := RX6) (T := TX6) (N := 6) hx hb hts (tw_i inlX6) hown hK hP hL_this_scanner hK_this_scanner (by decide) rfl 2 (by decide) (hts _ (tw_c tw_657)) rfl dX4_readKeys_53 ?_
                refine lv_bipush (v := 31) hx hb dX4_readKeys_56 (by decide) ?_
                refine lv_icmp_ne (tgt := 65) hx hb dX4_readKeys_58 (by decide) (fun c_786 => ?_) (fun c_786 => ?_)
                · have tc_787 : (I_775 194 this_scanner).toInt ≠ 31 := fun q => c_786 (Int32.toInt_inj.mp q)
                  refine lv_iconst (v := 0) hx hb dX4_readKeys_65 (by decide) ?_
                  refine lv_istore_n (lv' := [(2, .int 0), (1, .int x_763), (0, .ref this)]) hx hb dX4_readKeys_66 rfl hl (by decide) rfl (fun ls hl => ?_)
                  refine lv_goto (tgt := 4) hx hb dX4_readKeys_67 (by decide) ?_
                  exact ih_679 x_763 (0 : Int32) I_775 ri_754 _ _ _ (rg_w h_764 (by decide)) (rg_w (rg_k (0 : Int32) 0 rfl) (by decide)) (by have k0 : (0 : Int32).toInt = 0 := rfl; omega) (ft_t hrel_687 hp_759) (ms_up 1 hm_676 ex_763 rfl (by decide) h_721 (by decide) (by decide)) hG hP hD hS (lv_sub hl [2, 1, 0] rfl)
                · have tc_788 : (I_775 194 this_scanner).toInt = 31 := congrArg Int32.toInt c_786
                  have h_789 : rg (I_775 194 this_scanner) 31 31 := rg_and (rg_full _) (rg_of_eq c_786 (rg_k (31 : Int32) 31 rfl)) (by decide)
                  have uh_789 := h_789.1
                  have vh_789 := h_789.2
                  refine lv_iconst (v := 1) hx hb dX4_readKeys_61 (by decide) ?_
                  refine lv_goto (tgt := 66) hx hb dX4_readKeys_62 (by decide) ?_
                  refine lv_istore_n (lv' := [(2, .int 1), (1, .int x_763), (0, .ref this)]) hx hb dX4_readKeys_66 rfl hl (by decide) rfl (fun ls hl => ?_)
                  refine lv_goto (tgt := 4) hx hb dX4_readKeys_67 (by decide) ?_
                  exact ih_679 x_763 (1 : Int32) I_775 ri_754 _ _ _ (rg_w h_764 (by decide)) (rg_w (rg_k (1 : Int32) 1 rfl) (by decide)) (by have k0 : (1 : Int32).toInt = 1 := rfl; omega) (ft_t hrel_687 hp_759) (ms_up 1 hm_676 ex_763 rfl (by decide) h_721 (by decide) (by decide)) hG hP hD hS (lv_sub hl [2, 1, 0] rfl)
    exact L_678 _ (0 : Int32) (1 : Int32) I ri _ _ _ (rg_w (rg_k (0 : Int32) 0 rfl) (by decide)) (rg_w (rg_k (1 : Int32) 1 rfl) (by decide)) (by have k0 : (0 : Int32).toInt = 0 := rfl; have k1 : (1 : Int32).toInt = 1 := rfl; omega) (fun _ _ => rfl) (Nat.lt_succ_self _) hG hP hD hS (lv_sub hl [2, 1, 0] rfl)
  exact go _ _ _ hP hD hS hl

set_option maxHeartbeats 4000000 in
set_option maxRecDepth 100000 in
theorem s_X4_readClause (l : Launch) (D : va_G) (t : pq_T) (σ : pq_S) (I : Nat → Nat → Int32) (J : Nat → Nat → Int64) (ri : Nat → Nat → Int32) (rj : Nat → Nat → Int64) (rq : Nat → Nat → Option Nat) (sz : Nat) (aK aV : Nat) (vF : Value) (tg : Nat → Nat) (hSH : SH σ tg) (hG0 : GS tg σ I ri rq) (this : Nat) (hL_this : this ∈ σ.1) (hK_this : σ.2.1 this = 4) (this_scanner : Nat) (hR_this_scanner : σ.2.2.1 128 this = some this_scanner) (hL_this_scanner : this_scanner ∈ σ.1) (hK_this_scanner : σ.2.1 this_scanner = 6) (this_draft : Nat) (hR_this_draft : σ.2.2.1 131 this = some this_draft) (hL_this_draft : this_draft ∈ σ.1) (hK_this_draft : σ.2.1 this_draft = 8) (this_draft_from : Nat) (hR_this_draft_from : σ.2.2.1 258 this_draft = some this_draft_from) (hL_this_draft_from : this_draft_from ∈ σ.1) (hK_this_draft_from : σ.2.1 this_draft_from = 13) (hN_this_draft_from : σ.2.2.2 this_draft_from = 21) (hT_this_draft_from : tg this_draft_from = 258) (hfi : FI σ) (hfc : (ri this_draft_from (I 256 this_draft).toNatClampNeg).toInt = (I 132 this).toInt) (hcd : (I 132 this).toInt ≤ 299) (hca : (I 132 this).toInt ≤ (I 197 this_scanner).toInt) : MetVS aK aV vF l yX4_readClause (wa yX4_readClause cX4_readClause 2 none) ({ frames := 8, cells := 0, slots := 0, locals := 173 }) [.ref this] D t σ (I, J, ri, rj, rq) sz 0 0 (fun (u : pq_S × pq_M) => ∃ I' : Nat → Nat → Int32, ∃ ri' : Nat → Nat → Int32, u = (σ, I', J, ri', rj, rq) ∧ GX [256, 134, 197, 194, 129, 132] tg σ I ri rj I' ri' rj rq ∧ ((ri' this_draft_from (I' 256 this_draft).toNatClampNeg).toInt = (I' 132 this).toInt) ∧ (((I' 129 this).toInt = 0 → (I' 132 this).toInt ≤ (I' 197 this_scanner).toInt))) := by
  refine Met.ofW (cc := cX4_readClause) (maxL := 2) (ret := none) (by decide) rfl ?_
  intro p e s m args below meth c s₁ B hml hv
  obtain ⟨rfl, ⟨hsz, hP, hK, hD0, hN⟩, hW0⟩ := hv
  have hx := B.exec
  have hb := B.bytes
  have hr := B.returns
  have hts := atoms_spec (ws := (wa yX4_readClause cX4_readClause 2 none)) B.pre
  have hown : s.vm.findClass RX4 = some m.cls := findClass_of_methodNamed B.named
  have hlocks := B.notSynchronized
  subst hsz
  have hD : va_D (pq_B t σ (I, J, ri, rj, rq) s.heap.size) (pq_P t σ (I, J, ri, rj, rq)) := hD0.self
  generalize hAe : pq_B t σ (I, J, ri, rj, rq) s.heap.size = A at hD hW0 ⊢
  have hA : ∀ q : Nat, s.heap.size ≤ q → A q := fun q h => by rw [← hAe]; exact Or.inr h
  have hS : va_S A s.heap s.heap [] := va_S.rf
  have hG : GX [256, 134, 197, 194, 129, 132] tg σ I ri rj I ri rj rq := ⟨hG0, fun _ _ _ => rfl, fun _ _ _ _ _ => rfl, fun _ _ _ _ _ => rfl⟩
  have hl := lv_entry ([.ref this]) (n := 2) (Nat.le_of_ble_eq_true rfl)
  rw [lg_entry_eq]
  generalize (lg_sl ([.ref this]) ++ List.replicate (2 - (lg_sl ([.ref this])).length) Slot.unset).toArray = ls at hl ⊢
  have hl : lv_has ls 2 [(0, .ref this)] := hl
  refine q_gen (fun Q hQ => ?_)
  have go : ∀ (H : Heap) (locs : List Loc) (ls : Array Slot), va_P D vwCl (pq_P t σ (I, J, ri, rj, rq)) H → va_D A (pq_P t σ (I, J, ri, rj, rq)) → va_S A s.heap H locs → lv_has ls 2 [(0, .ref this)] → W p l e ({ frames := 8, cells := 0, slots := 0, locals := 173 } : Room) s m (List.toArray ([.ref this] : List Value)) below meth c H locs 0 0 Q (F0 m 0 ls []) := by
    intro H locs ls hP hD hS hl
    refine lv_aload_n hx hb dX4_readClause_0 rfl (lv_at hl 0 rfl) ?_
    refine pg_f (v := .ref this_scanner) (C := RX4) (T := TX4) (N := 12) hx hb hts (tw_i inlX4) hown hK hP hL_this hK_this (by decide) rfl 0 (by decide) (hts _ (tw_c tw_154)) (pq_hv rfl hR_this_scanner) dX4_readClause_1 ?_
    refine pg_f (v := .int (I 194 this_scanner)) (C := RX6) (T := TX6) (N := 6) hx hb hts (tw_i inlX6) hown hK hP hL_this_scanner hK_this_scanner (by decide) rfl 2 (by decide) (hts _ (tw_c tw_657)) rfl dX4_readClause_4 ?_
    refine lv_istore_n (lv' := [(1, .int (I 194 this_scanner)), (0, .ref this)]) hx hb dX4_readClause_7 rfl hl (by decide) rfl (fun ls hl => ?_)
    refine lv_iload_n hx hb dX4_readClause_8 rfl (lv_at hl 0 rfl) ?_
    refine lv_bipush (v := 8) hx hb dX4_readClause_9 (by decide) ?_
    refine lv_icmp_le (tgt := 22) hx hb dX4_readClause_11 (by decide) (fun c_1 => ?_) (fun c_1 => ?_)
    · have tc_2 : (I 194 this_scanner).toInt ≤ 8 := Int32.le_iff_toInt_le.mp c_1
      have h_3 : rg (I 194 this_scanner) (-2147483648) 8 := rg_le1 c_1 (rg_full _) (rg_k (8 : Int32) 8 rfl) (by decide)
      have uh_3 := h_3.1
      have vh_3 := h_3.2
      refine lv_iload_n hx hb dX4_readClause_22 rfl (lv_at hl 0 rfl) ?_
      refine lv_iconst (v := 4) hx hb dX4_readClause_23 (by decide) ?_
      refine lv_icmp_lt (tgt := 47) hx hb dX4_readClause_24 (by decide) (fun c_4 => ?_) (fun c_4 => ?_)
      · have tc_5 : (I 194 this_scanner).toInt < 4 := Int32.lt_iff_toInt_lt.mp c_4
        have h_6 : rg (I 194 this_scanner) (-2147483648) 3 := rg_lt1 c_4 h_3 (rg_k (4 : Int32) 4 rfl) (by decide)
        have uh_6 := h_6.1
        have vh_6 := h_6.2
        refine lv_aload_n hx hb dX4_readClause_47 rfl (lv_at hl 1 rfl) ?_
        refine pg_f (v := .ref this_draft) (C := RX4) (T := TX4) (N := 12) hx hb hts (tw_i inlX4) hown hK hP hL_this hK_this (by decide) rfl 3 (by decide) (hts _ (tw_c tw_160)) (pq_hv rfl hR_this_draft) dX4_readClause_48 ?_
        refine pg_f (v := .int (I 256 this_draft)) (C := RX8) (T := TX8) (N := 4) hx hb hts (tw_i inlX8) hown hK hP hL_this_draft hK_this_draft (by decide) rfl 0 (by decide) (hts _ (tw_c tw_745)) rfl dX4_readClause_51 ?_
        have h_7 : rg (I 256 this_draft) 0 20 := GX.rI hG 256 rfl
        have uh_7 := h_7.1
        have vh_7 := h_7.2
        refine lv_bipush (v := 20) hx hb dX4_readClause_54 (by decide) ?_
        refine lv_icmp_lt (tgt := 67) hx hb dX4_readClause_56 (by decide) (fun c_8 => ?_) (fun c_8 => ?_)
        · have tc_9 : (I 256 this_draft).toInt < 20 := Int32.lt_iff_toInt_lt.mp c_8
          have h_10 : rg (I 256 this_draft) 0 19 := rg_lt1 c_8 h_7 (rg_k (20 : Int32) 20 rfl) (by decide)
          have uh_10 := h_10.1
          have vh_10 := h_10.2
          refine lv_aload_n hx hb dX4_readClause_67 rfl (lv_at hl 1 rfl) ?_
          refine pg_f (v := .ref this_draft) (C := RX4) (T := TX4) (N := 12) hx hb hts (tw_i inlX4) hown hK hP hL_this hK_this (by decide) rfl 3 (by decide) (hts _ (tw_c tw_160)) (pq_hv rfl hR_this_draft) dX4_readClause_68 ?_
          obtain ⟨w_11, hR_w_11, hL_w_11, hK_w_11, hN_w_11, hT_w_11⟩ := sh_a hSH 257 (ci := 8) (kd := 13) (len := 20) rfl (by decide) hL_this_draft hK_this_draft
          refine pg_f (v := .ref w_11) (C := RX8) (T := TX8) (N := 4) hx hb hts (tw_i inlX8) hown hK hP hL_this_draft hK_this_draft (by decide) rfl 1 (by decide) (hts _ (tw_c tw_746)) (pq_hv rfl hR_w_11) dX4_readClause_71 ?_
          refine lv_aload_n hx hb dX4_readClause_74 rfl (lv_at hl 1 rfl) ?_
          refine pg_f (v := .ref this_draft) (C := RX4) (T := TX4) (N := 12) hx hb hts (tw_i inlX4) hown hK hP hL_this hK_this (by decide) rfl 3 (by decide) (hts _ (tw_c tw_160)) (pq_hv rfl hR_this_draft) dX4_readClause_75 ?_
          refine pg_f (v := .int (I 256 this_draft)) (C := RX8) (T := TX8) (N := 4) hx hb hts (tw_i inlX8) hown hK hP hL_this_draft hK_this_draft (by decide) rfl 0 (by decide) (hts _ (tw_c tw_745)) rfl dX4_readClause_78 ?_
          refine lv_iload_n hx hb dX4_readClause_81 rfl (lv_at hl 0 rfl) ?_
          refine pt_i hx hb hK hP hD hS hL_w_11 hK_w_11 hN_w_11 (rg_in h_10 (by decide)) dX4_readClause_82 (fun r_12 H locs er_12 hP hD hS => ?_)
          have hG := GX.wR hG hSH hT_w_11 rfl er_12 (rg_w h_6 (by decide)) (by decide)
          refine lv_aload_n hx hb dX4_readClause_83 rfl (lv_at hl 1 rfl) ?_
          refine pg_f (v := .ref this_draft) (C := RX4) (T := TX4) (N := 12) hx hb hts (tw_i inlX4) hown hK hP hL_this hK_this (by decide) rfl 3 (by decide) (hts _ (tw_c tw_160)) (pq_hv rfl hR_this_draft) dX4_readClause_84 ?_
          refine lv_dup hx hb dX4_readClause_87 rfl ?_
          refine pg_f (v := .int (I 256 this_draft)) (C := RX8) (T := TX8) (N := 4) hx hb hts (tw_i inlX8) hown hK hP hL_this_draft hK_this_draft (by decide) rfl 0 (by decide) (hts _ (tw_c tw_745)) rfl dX4_readClause_88 ?_
          refine lv_iconst (v := 1) hx hb dX4_readClause_91 (by decide) ?_
          refine lv_iadd hx hb dX4_readClause_92 ?_
          refine lv_topi (fun x_13 ex_13 => ?_)
          have h_14 : rg x_13 1 20 := rg_of_eq ex_13 (rg_add h_10 (rg_k (1 : Int32) 1 rfl) (by decide))
          have uh_14 := h_14.1
          have vh_14 := h_14.2
          have tx_13 : (x_13).toInt = (I 256 this_draft).toInt + 1 := by rw [ex_13]; exact i_add_rg (a2 := (I 256 this_draft).toInt) (b2 := 1) rfl rfl h_10 (rg_k (1 : Int32) 1 rfl) (by decide)
          refine pp_i (v := x_13) (ty := .int) (C := RX8) (T := TX8) (N := 4) hx hb hts (tw_i inlX8) tyX8 tyX8_ok nmX8 hown hK hP hD hS hL_this_draft hK_this_draft (by decide) rfl 0 256 (by decide) (hts _ (tw_c tw_745)) rfl (tyX8_ok 0 (by decide)) rfl rfl (Nat.le_of_ble_eq_true rfl) (ps_256 _ _ _ _ _) dX4_readClause_93 (fun I_15 H locs eI_15 hP hD hS => ?_)
          have hq9 : (r_12 this_draft_from (I 256 this_draft).toNatClampNeg).toInt ≤ 299 := by rw [show r_12 this_draft_from = ri this_draft_from from (ft_w (fun _ _ => rfl) er_12 hT_w_11 (by decide)) this_draft_from hT_this_draft_from]; omega
          have hG := GX.wC hG hR_this_draft_from eI_15 (rg_w h_14 (by decide)) (by omega) hq9 (by decide)
          have tt_16 : (I_15 132 this).toInt = (I 132 this).toInt := by rw [eI_15, pq_uf _ _ _ (by decide)]
          have tt_17 : (I_15 134 this).toInt = (I 134 this).toInt := by rw [eI_15, pq_uf _ _ _ (by decide)]
          have tt_18 : (I_15 129 this).toInt = (I 129 this).toInt := by rw [eI_15, pq_uf _ _ _ (by decide)]
          have tt_19 : (I_15 197 this_scanner).toInt = (I 197 this_scanner).toInt := by rw [eI_15, pq_uf _ _ _ (by decide)]
          have tt_20 : (I_15 194 this_scanner).toInt = (I 194 this_scanner).toInt := by rw [eI_15, pq_uf _ _ _ (by decide)]
          have tt_21 : (I_15 256 this_draft).toInt = (x_13).toInt := by rw [eI_15, pq_us]
          refine lv_iload_n hx hb dX4_readClause_96 rfl (lv_at hl 0 rfl) ?_
          refine lv_iconst (v := 4) hx hb dX4_readClause_97 (by decide) ?_
          refine lv_icmp_ge (tgt := 108) hx hb dX4_readClause_98 (by decide) (fun c_22 => ?_) (fun c_22 => ?_)
          · have tc_23 : 4 ≤ (I 194 this_scanner).toInt := Int32.le_iff_toInt_le.mp c_22
            exact (rg_empty (rg_le2 c_22 (rg_k (4 : Int32) 4 rfl) h_6 (lo := 4) (hi := 3) (by decide)) (by decide)).elim
          · have tc_24 : (I 194 this_scanner).toInt < 4 := Int32.lt_iff_toInt_lt.mp (nle c_22)
            refine lv_aload_n hx hb dX4_readClause_101 rfl (lv_at hl 1 rfl) ?_
            refine pk_v (va_runV (As := []) (rest := []) ⟨hx, hb, hml, hown, hts⟩ (s_X4_readEither l D t σ I_15 J r_12 rj rq H.size aK aV vF tg hSH hG.1 this hL_this hK_this this_scanner hR_this_scanner hL_this_scanner hK_this_scanner (by omega)) (cwV 0 hts (tw_V tw_754 tw_755 tw_756 tw_25 tw_757) rfl rfl rfl cv_yX4_readEither_0 ⟨Nat.le_of_ble_eq_true rfl, Nat.le_of_ble_eq_true rfl⟩) ⟨pq_blindS, pq_recv hK hP hL_this hK_this (by decide) rfl, pq_preS hK hN hP hD hS hA hW0⟩ rfl rfl hl.1 rfl (lv_room (Nat.le_of_ble_eq_true rfl)) dX4_readClause_102 ⟨Nat.le_of_ble_eq_true rfl, Nat.le_of_ble_eq_true rfl⟩) hD hS hA (fun σ1 μ1 H locs hw_26 hP hD hS => ?_)
            obtain ⟨I_27, ri_28, hu_29, hg_30, hp_32, hp_33⟩ := hw_26
            obtain ⟨hu_29a, hu_29b⟩ := Prod.mk.inj hu_29
            rw [hu_29a, hu_29b] at hP hD
            have tt_34 := hp_32
            have tt_35 := hp_33
            have hG := GX.tr hG hg_30 (by decide)
            have tt_36 : (I_27 256 this_draft).toInt = (I_15 256 this_draft).toInt := by rw [hg_30.2.1 256 (by decide) (by decide)]
            refine lv_goto (tgt := 128) hx hb dX4_readClause_105 (by decide) ?_
            refine lv_aload_n hx hb dX4_readClause_128 rfl (lv_at hl 1 rfl) ?_
            refine pg_f (v := .ref this_draft) (C := RX4) (T := TX4) (N := 12) hx hb hts (tw_i inlX4) hown hK hP hL_this hK_this (by decide) rfl 3 (by decide) (hts _ (tw_c tw_160)) (pq_hv rfl hR_this_draft) dX4_readClause_129 ?_
            refine pg_f (v := .ref this_draft_from) (C := RX8) (T := TX8) (N := 4) hx hb hts (tw_i inlX8) hown hK hP hL_this_draft hK_this_draft (by decide) rfl 2 (by decide) (hts _ (tw_c tw_747)) (pq_hv rfl hR_this_draft_from) dX4_readClause_132 ?_
            refine lv_aload_n hx hb dX4_readClause_135 rfl (lv_at hl 1 rfl) ?_
            refine pg_f (v := .ref this_draft) (C := RX4) (T := TX4) (N := 12) hx hb hts (tw_i inlX4) hown hK hP hL_this hK_this (by decide) rfl 3 (by decide) (hts _ (tw_c tw_160)) (pq_hv rfl hR_this_draft) dX4_readClause_136 ?_
            refine pg_f (v := .int (I_27 256 this_draft)) (C := RX8) (T := TX8) (N := 4) hx hb hts (tw_i inlX8) hown hK hP hL_this_draft hK_this_draft (by decide) rfl 0 (by decide) (hts _ (tw_c tw_745)) rfl dX4_readClause_139 ?_
            have h_37 : rg (I_27 256 this_draft) 1 20 := (by rw [hg_30.2.1 256 (by decide) (by decide)]; exact (by rw [eI_15, pq_us]; exact h_14))
            have uh_37 := h_37.1
            have vh_37 := h_37.2
            refine lv_aload_n hx hb dX4_readClause_142 rfl (lv_at hl 1 rfl) ?_
            refine pg_f (v := .int (I_27 132 this)) (C := RX4) (T := TX4) (N := 12) hx hb hts (tw_i inlX4) hown hK hP hL_this hK_this (by decide) rfl 4 (by decide) (hts _ (tw_c tw_656)) rfl dX4_readClause_143 ?_
            have h_38 : rg (I_27 132 this) 0 300 := GX.rI hG 132 rfl
            have uh_38 := h_38.1
            have vh_38 := h_38.2
            refine pt_i hx hb hK hP hD hS hL_this_draft_from hK_this_draft_from hN_this_draft_from (rg_in h_37 (by decide)) dX4_readClause_146 (fun r_39 H locs er_39 hP hD hS => ?_)
            have hG := GX.wF hG hfi hL_this_draft hK_this_draft hR_this_draft_from er_39 (rg_w h_38 (by decide)) (Int.le_refl _) hT_this_draft_from
            subst hQ
            exact W.vret hx hb hr (fun t1 ht hW => ⟨⟨(σ, I_27, J, r_39, rj, rq), rfl, ⟨I_27, r_39, rfl, hG, (by rw [er_39, va_up_self]; unfold upd; rw [if_pos rfl]), (by omega)⟩, by rw [ht]; exact hP, va_K.moved hW.alike hK, hD⟩, hS.F ht⟩) hS.2.2 dX4_readClause_147
        · have tc_40 : 20 ≤ (I 256 this_draft).toInt := Int32.le_iff_toInt_le.mp (nlt c_8)
          have h_41 : rg (I 256 this_draft) 20 20 := rg_le2 (nlt c_8) (rg_k (20 : Int32) 20 rfl) h_7 (by decide)
          have uh_41 := h_41.1
          have vh_41 := h_41.2
          refine lv_aload_n hx hb dX4_readClause_59 rfl (lv_at hl 1 rfl) ?_
          refine lv_iconst (v := 5) hx hb dX4_readClause_60 (by decide) ?_
          refine pk_v (va_runV (As := [.int 5]) (rest := []) ⟨hx, hb, hml, hown, hts⟩ (s_X4_refuse l D t σ I J ri rj rq H.size tg hSH hG.1 this (5 : Int32) hL_this hK_this (rg_w (rg_k (5 : Int32) 5 rfl) (by decide))) (cwV 1 hts (tw_V tw_748 tw_749 tw_750 tw_25 tw_751) rfl rfl rfl cv_yX4_refuse_1 ⟨Nat.le_of_ble_eq_true rfl, Nat.le_of_ble_eq_true rfl⟩) ⟨pq_blind, pq_recv hK hP hL_this hK_this (by decide) rfl, pq_pre hK hN hP hD⟩ rfl rfl hl.1 rfl (lv_room (Nat.le_of_ble_eq_true rfl)) dX4_readClause_61 ⟨Nat.le_of_ble_eq_true rfl, Nat.le_of_ble_eq_true rfl⟩) hD hS hA (fun σ1 μ1 H locs hw_43 hP hD hS => ?_)
          obtain ⟨I_44, hu_45, hg_46, hp_48⟩ := hw_43
          obtain ⟨hu_45a, hu_45b⟩ := Prod.mk.inj hu_45
          rw [hu_45a, hu_45b] at hP hD
          have tt_49 := hp_48
          have hG := GX.tr hG hg_46 (by decide)
          have tt_50 : (I_44 132 this).toInt = (I 132 this).toInt := by rw [hg_46.2.1 132 (by decide) (by decide)]
          have tt_51 : (I_44 134 this).toInt = (I 134 this).toInt := by rw [hg_46.2.1 134 (by decide) (by decide)]
          have tt_52 : (I_44 197 this_scanner).toInt = (I 197 this_scanner).toInt := by rw [hg_46.2.1 197 (by decide) (by decide)]
          have tt_53 : (I_44 194 this_scanner).toInt = (I 194 this_scanner).toInt := by rw [hg_46.2.1 194 (by decide) (by decide)]
          have tt_54 : (I_44 256 this_draft).toInt = (I 256 this_draft).toInt := by rw [hg_46.2.1 256 (by decide) (by decide)]
          refine lv_goto (tgt := 147) hx hb dX4_readClause_64 (by decide) ?_
          subst hQ
          exact W.vret hx hb hr (fun t1 ht hW => ⟨⟨(σ, I_44, J, ri, rj, rq), rfl, ⟨I_44, ri, rfl, hG, (by rw [show I_44 256 this_draft = I 256 this_draft from ((congrFun (hg_46.2.1 256 (by decide) (by decide)) this_draft).trans rfl)]; omega), (by omega)⟩, by rw [ht]; exact hP, va_K.moved hW.alike hK, hD⟩, hS.F ht⟩) hS.2.2 dX4_readClause_147
      · have tc_55 : 4 ≤ (I 194 this_scanner).toInt := Int32.le_iff_toInt_le.mp (nlt c_4)
        have h_56 : rg (I 194 this_scanner) 4 8 := rg_le2 (nlt c_4) (rg_k (4 : Int32) 4 rfl) h_3 (by decide)
        have uh_56 := h_56.1
        have vh_56 := h_56.2
        refine lv_aload_n hx hb dX4_readClause_27 rfl (lv_at hl 1 rfl) ?_
        refine pg_f (v := .ref this_draft) (C := RX4) (T := TX4) (N := 12) hx hb hts (tw_i inlX4) hown hK hP hL_this hK_this (by decide) rfl 3 (by decide) (hts _ (tw_c tw_160)) (pq_hv rfl hR_this_draft) dX4_readClause_28 ?_
        refine lv_iload_n hx hb dX4_readClause_31 rfl (lv_at hl 0 rfl) ?_
        refine pk_i (va_runV (As := [.int (I 194 this_scanner)]) (rest := []) ⟨hx, hb, hml, hown, hts⟩ (s_X8_firstOf l D t σ I J ri rj rq H.size tg hSH hG.1 this_draft (I 194 this_scanner) hL_this_draft hK_this_draft) (cwV 1 hts (tw_V tw_753 tw_475 tw_476 tw_159 tw_477) rfl rfl rfl cv_yX8_firstOf_1 ⟨Nat.le_of_ble_eq_true rfl, Nat.le_of_ble_eq_true rfl⟩) ⟨pq_blind, pq_recv hK hP hL_this_draft hK_this_draft (by decide) rfl, pq_pre hK hN hP hD⟩ rfl rfl hl.1 rfl (lv_room (Nat.le_of_ble_eq_true rfl)) dX4_readClause_32 ⟨Nat.le_of_ble_eq_true rfl, Nat.le_of_ble_eq_true rfl⟩) hD hS hA (fun x_57 σ1 μ1 H locs hw_58 hP hD hS => ?_)
        obtain ⟨hu_59, hp_62, hr_61⟩ := hw_58
        obtain ⟨hu_59a, hu_59b⟩ := Prod.mk.inj hu_59
        rw [hu_59a, hu_59b] at hP hD
        refine lv_iconst (v := (-1)) hx hb dX4_readClause_35 (by decide) ?_
        refine lv_icmp_eq (tgt := 47) hx hb dX4_readClause_36 (by decide) (fun c_63 => ?_) (fun c_63 => ?_)
        · have tc_64 : (x_57).toInt = (-1) := congrArg Int32.toInt c_63
          have h_65 : rg x_57 (-1) (-1) := rg_and hr_61 (rg_of_eq c_63 (rg_k (-1 : Int32) (-1) rfl)) (by decide)
          have uh_65 := h_65.1
          have vh_65 := h_65.2
          refine lv_aload_n hx hb dX4_readClause_47 rfl (lv_at hl 1 rfl) ?_
          refine pg_f (v := .ref this_draft) (C := RX4) (T := TX4) (N := 12) hx hb hts (tw_i inlX4) hown hK hP hL_this hK_this (by decide) rfl 3 (by decide) (hts _ (tw_c tw_160)) (pq_hv rfl hR_this_draft) dX4_readClause_48 ?_
          refine pg_f (v := .int (I 256 this_draft)) (C := RX8) (T := TX8) (N := 4) hx hb hts (tw_i inlX8) hown hK hP hL_this_draft hK_this_draft (by decide) rfl 0 (by decide) (hts _ (tw_c tw_745)) rfl dX4_readClause_51 ?_
          have h_66 : rg (I 256 this_draft) 0 20 := GX.rI hG 256 rfl
          have uh_66 := h_66.1
          have vh_66 := h_66.2
          refine lv_bipush (v := 20) hx hb dX4_readClause_54 (by decide) ?_
          refine lv_icmp_lt (tgt := 67) hx hb dX4_readClause_56 (by decide) (fun c_67 => ?_) (fun c_67 => ?_)
          · have tc_68 : (I 256 this_draft).toInt < 20 := Int32.lt_iff_toInt_lt.mp c_67
            have h_69 : rg (I 256 this_draft) 0 19 := rg_lt1 c_67 h_66 (rg_k (20 : Int32) 20 rfl) (by decide)
            have uh_69 := h_69.1
            have vh_69 := h_69.2
            refine lv_aload_n hx hb dX4_readClause_67 rfl (lv_at hl 1 rfl) ?_
            refine pg_f (v := .ref this_draft) (C := RX4) (T := TX4) (N := 12) hx hb hts (tw_i inlX4) hown hK hP hL_this hK_this (by decide) rfl 3 (by decide) (hts _ (tw_c tw_160)) (pq_hv rfl hR_this_draft) dX4_readClause_68 ?_
            obtain ⟨w_70, hR_w_70, hL_w_70, hK_w_70, hN_w_70, hT_w_70⟩ := sh_a hSH 257 (ci := 8) (kd := 13) (len := 20) rfl (by decide) hL_this_draft hK_this_draft
            refine pg_f (v := .ref w_70) (C := RX8) (T := TX8) (N := 4) hx hb hts (tw_i inlX8) hown hK hP hL_this_draft hK_this_draft (by decide) rfl 1 (by decide) (hts _ (tw_c tw_746)) (pq_hv rfl hR_w_70) dX4_readClause_71 ?_
            refine lv_aload_n hx hb dX4_readClause_74 rfl (lv_at hl 1 rfl) ?_
            refine pg_f (v := .ref this_draft) (C := RX4) (T := TX4) (N := 12) hx hb hts (tw_i inlX4) hown hK hP hL_this hK_this (by decide) rfl 3 (by decide) (hts _ (tw_c tw_160)) (pq_hv rfl hR_this_draft) dX4_readClause_75 ?_
            refine pg_f (v := .int (I 256 this_draft)) (C := RX8) (T := TX8) (N := 4) hx hb hts (tw_i inlX8) hown hK hP hL_this_draft hK_this_draft (by decide) rfl 0 (by decide) (hts _ (tw_c tw_745)) rfl dX4_readClause_78 ?_
            refine lv_iload_n hx hb dX4_readClause_81 rfl (lv_at hl 0 rfl) ?_
            refine pt_i hx hb hK hP hD hS hL_w_70 hK_w_70 hN_w_70 (rg_in h_69 (by decide)) dX4_readClause_82 (fun r_71 H locs er_71 hP hD hS => ?_)
            have hG := GX.wR hG hSH hT_w_70 rfl er_71 (rg_w h_56 (by decide)) (by decide)
            refine lv_aload_n hx hb dX4_readClause_83 rfl (lv_at hl 1 rfl) ?_
            refine pg_f (v := .ref this_draft) (C := RX4) (T := TX4) (N := 12) hx hb hts (tw_i inlX4) hown hK hP hL_this hK_this (by decide) rfl 3 (by decide) (hts _ (tw_c tw_160)) (pq_hv rfl hR_this_draft) dX4_readClause_84 ?_
            refine lv_dup hx hb dX4_readClause_87 rfl ?_
            refine pg_f (v := .int (I 256 this_draft)) (C := RX8) (T := TX8) (N := 4) hx hb hts (tw_i inlX8) hown hK hP hL_this_draft hK_this_draft (by decide) rfl 0 (by decide) (hts _ (tw_c tw_745)) rfl dX4_readClause_88 ?_
            refine lv_iconst (v := 1) hx hb dX4_readClause_91 (by decide) ?_
            refine lv_iadd hx hb dX4_readClause_92 ?_
            refine lv_topi (fun x_72 ex_72 => ?_)
            have h_73 : rg x_72 1 20 := rg_of_eq ex_72 (rg_add h_69 (rg_k (1 : Int32) 1 rfl) (by decide))
            have uh_73 := h_73.1
            have vh_73 := h_73.2
            have tx_72 : (x_72).toInt = (I 256 this_draft).toInt + 1 := by rw [ex_72]; exact i_add_rg (a2 := (I 256 this_draft).toInt) (b2 := 1) rfl rfl h_69 (rg_k (1 : Int32) 1 rfl) (by decide)
            refine pp_i (v := x_72) (ty := .int) (C := RX8) (T := TX8) (N := 4) hx hb hts (tw_i inlX8) tyX8 tyX8_ok nmX8 hown hK hP hD hS hL_this_draft hK_this_draft (by decide) rfl 0 256 (by decide) (hts _ (tw_c tw_745)) rfl (tyX8_ok 0 (by decide)) rfl rfl (Nat.le_of_ble_eq_true rfl) (ps_256 _ _ _ _ _) dX4_readClause_93 (fun I_74 H locs eI_74 hP hD hS => ?_)
            have hq9 : (r_71 this_draft_from (I 256 this_draft).toNatClampNeg).toInt ≤ 299 := by rw [show r_71 this_draft_from = ri this_draft_from from (ft_w (fun _ _ => rfl) er_71 hT_w_70 (by decide)) this_draft_from hT_this_draft_from]; omega
            have hG := GX.wC hG hR_this_draft_from eI_74 (rg_w h_73 (by decide)) (by omega) hq9 (by decide)
            have tt_75 : (I_74 132 this).toInt = (I 132 this).toInt := by rw [eI_74, pq_uf _ _ _ (by decide)]
            have tt_76 : (I_74 134 this).toInt = (I 134 this).toInt := by rw [eI_74, pq_uf _ _ _ (by decide)]
            have tt_77 : (I_74 129 this).toInt = (I 129 this).toInt := by rw [eI_74, pq_uf _ _ _ (by decide)]
            have tt_78 : (I_74 197 this_scanner).toInt = (I 197 this_scanner).toInt := by rw [eI_74, pq_uf _ _ _ (by decide)]
            have tt_79 : (I_74 194 this_scanner).toInt = (I 194 this_scanner).toInt := by rw [eI_74, pq_uf _ _ _ (by decide)]
            have tt_80 : (I_74 256 this_draft).toInt = (x_72).toInt := by rw [eI_74, pq_us]
            refine lv_iload_n hx hb dX4_readClause_96 rfl (lv_at hl 0 rfl) ?_
            refine lv_iconst (v := 4) hx hb dX4_readClause_97 (by decide) ?_
            refine lv_icmp_ge (tgt := 108) hx hb dX4_readClause_98 (by decide) (fun c_81 => ?_) (fun c_81 => ?_)
            · have tc_82 : 4 ≤ (I 194 this_scanner).toInt := Int32.le_iff_toInt_le.mp c_81
              refine lv_iload_n hx hb dX4_readClause_108 rfl (lv_at hl 0 rfl) ?_
              refine lv_iconst (v := 5) hx hb dX4_readClause_109 (by decide) ?_
              refine lv_icmp_gt (tgt := 120) hx hb dX4_readClause_110 (by decide) (fun c_83 => ?_) (fun c_83 => ?_)
              · have tc_84 : 5 < (I 194 this_scanner).toInt := Int32.lt_iff_toInt_lt.mp c_83
                have h_85 : rg (I 194 this_scanner) 6 8 := rg_lt2 c_83 (rg_k (5 : Int32) 5 rfl) h_56 (by decide)
                have uh_85 := h_85.1
                have vh_85 := h_85.2
                refine lv_aload_n hx hb dX4_readClause_120 rfl (lv_at hl 1 rfl) ?_
                refine lv_iload_n hx hb dX4_readClause_121 rfl (lv_at hl 0 rfl) ?_
                refine pk_i (va_runS (As := [.int (I 194 this_scanner)]) (rest := [.ref this]) ⟨hx, hb, hml, hown, hts⟩ (s_X4_mostOf l D t σ I_74 J r_71 rj rq H.size tg hSH hG.1 (I 194 this_scanner)) (va_cwS 1 hts (tw_S tw_809 tw_810 tw_25 tw_811) rfl rfl rfl cd_yX4_mostOf_1 ⟨Nat.le_of_ble_eq_true rfl, Nat.le_of_ble_eq_true rfl⟩) ⟨pq_blind, pq_pre hK hN hP hD⟩ rfl rfl hl.1 rfl (lv_room (Nat.le_of_ble_eq_true rfl)) dX4_readClause_122 ⟨Nat.le_of_ble_eq_true rfl, Nat.le_of_ble_eq_true rfl⟩) hD hS hA (fun x_86 σ1 μ1 H locs hw_87 hP hD hS => ?_)
                obtain ⟨hu_88, hr_90⟩ := hw_87
                obtain ⟨hu_88a, hu_88b⟩ := Prod.mk.inj hu_88
                rw [hu_88a, hu_88b] at hP hD
                refine pk_v (va_runV (As := [.int x_86]) (rest := []) ⟨hx, hb, hml, hown, hts⟩ (s_X4_readNumber l D t σ I_74 J r_71 rj rq H.size aK aV vF tg hSH hG.1 this x_86 hL_this hK_this this_scanner hR_this_scanner hL_this_scanner hK_this_scanner (by omega)) (cwV 1 hts (tw_V tw_812 tw_813 tw_814 tw_25 tw_815) rfl rfl rfl cv_yX4_readNumber_1 ⟨Nat.le_of_ble_eq_true rfl, Nat.le_of_ble_eq_true rfl⟩) ⟨pq_blindS, pq_recv hK hP hL_this hK_this (by decide) rfl, pq_preS hK hN hP hD hS hA hW0⟩ rfl rfl hl.1 rfl (lv_room (Nat.le_of_ble_eq_true rfl)) dX4_readClause_125 ⟨Nat.le_of_ble_eq_true rfl, Nat.le_of_ble_eq_true rfl⟩) hD hS hA (fun σ1 μ1 H locs hw_92 hP hD hS => ?_)
                obtain ⟨I_93, ri_94, hu_95, hg_96, hp_98, hp_99⟩ := hw_92
                obtain ⟨hu_95a, hu_95b⟩ := Prod.mk.inj hu_95
                rw [hu_95a, hu_95b] at hP hD
                have tt_100 := hp_98
                have tt_101 := hp_99
                have hG := GX.tr hG hg_96 (by decide)
                have tt_102 : (I_93 134 this).toInt = (I_74 134 this).toInt := by rw [hg_96.2.1 134 (by decide) (by decide)]
                have tt_103 : (I_93 256 this_draft).toInt = (I_74 256 this_draft).toInt := by rw [hg_96.2.1 256 (by decide) (by decide)]
                refine lv_aload_n hx hb dX4_readClause_128 rfl (lv_at hl 1 rfl) ?_
                refine pg_f (v := .ref this_draft) (C := RX4) (T := TX4) (N := 12) hx hb hts (tw_i inlX4) hown hK hP hL_this hK_this (by decide) rfl 3 (by decide) (hts _ (tw_c tw_160)) (pq_hv rfl hR_this_draft) dX4_readClause_129 ?_
                refine pg_f (v := .ref this_draft_from) (C := RX8) (T := TX8) (N := 4) hx hb hts (tw_i inlX8) hown hK hP hL_this_draft hK_this_draft (by decide) rfl 2 (by decide) (hts _ (tw_c tw_747)) (pq_hv rfl hR_this_draft_from) dX4_readClause_132 ?_
                refine lv_aload_n hx hb dX4_readClause_135 rfl (lv_at hl 1 rfl) ?_
                refine pg_f (v := .ref this_draft) (C := RX4) (T := TX4) (N := 12) hx hb hts (tw_i inlX4) hown hK hP hL_this hK_this (by decide) rfl 3 (by decide) (hts _ (tw_c tw_160)) (pq_hv rfl hR_this_draft) dX4_readClause_136 ?_
                refine pg_f (v := .int (I_93 256 this_draft)) (C := RX8) (T := TX8) (N := 4) hx hb hts (tw_i inlX8) hown hK hP hL_this_draft hK_this_draft (by decide) rfl 0 (by decide) (hts _ (tw_c tw_745)) rfl dX4_readClause_139 ?_
                have h_104 : rg (I_93 256 this_draft) 1 20 := (by rw [hg_96.2.1 256 (by decide) (by decide)]; exact (by rw [eI_74, pq_us]; exact h_73))
                have uh_104 := h_104.1
                have vh_104 := h_104.2
                refine lv_aload_n hx hb dX4_readClause_142 rfl (lv_at hl 1 rfl) ?_
                refine pg_f (v := .int (I_93 132 this)) (C := RX4) (T := TX4) (N := 12) hx hb hts (tw_i inlX4) hown hK hP hL_this hK_this (by decide) rfl 4 (by decide) (hts _ (tw_c tw_656)) rfl dX4_readClause_143 ?_
                have h_105 : rg (I_93 132 this) 0 300 := GX.rI hG 132 rfl
                have uh_105 := h_105.1
                have vh_105 := h_105.2
                refine pt_i hx hb hK hP hD hS hL_this_draft_from hK_this_draft_from hN_this_draft_from (rg_in h_104 (by decide)) dX4_readClause_146 (fun r_106 H locs er_106 hP hD hS => ?_)
                have hG := GX.wF hG hfi hL_this_draft hK_this_draft hR_this_draft_from er_106 (rg_w h_105 (by decide)) (Int.le_refl _) hT_this_draft_from
                subst hQ
                exact W.vret hx hb hr (fun t1 ht hW => ⟨⟨(σ, I_93, J, r_106, rj, rq), rfl, ⟨I_93, r_106, rfl, hG, (by rw [er_106, va_up_self]; unfold upd; rw [if_pos rfl]), (by omega)⟩, by rw [ht]; exact hP, va_K.moved hW.alike hK, hD⟩, hS.F ht⟩) hS.2.2 dX4_readClause_147
              · have tc_107 : (I 194 this_scanner).toInt ≤ 5 := Int32.le_iff_toInt_le.mp (nlt c_83)
                have h_108 : rg (I 194 this_scanner) 4 5 := rg_le1 (nlt c_83) h_56 (rg_k (5 : Int32) 5 rfl) (by decide)
                have uh_108 := h_108.1
                have vh_108 := h_108.2
                refine lv_aload_n hx hb dX4_readClause_113 rfl (lv_at hl 1 rfl) ?_
                refine pk_v (va_runV (As := []) (rest := []) ⟨hx, hb, hml, hown, hts⟩ (s_X4_readKeys l D t σ I_74 J r_71 rj rq H.size aK aV vF tg hSH hG.1 this hL_this hK_this this_scanner hR_this_scanner hL_this_scanner hK_this_scanner (by omega)) (cwV 0 hts (tw_V tw_797 tw_798 tw_799 tw_25 tw_800) rfl rfl rfl cv_yX4_readKeys_0 ⟨Nat.le_of_ble_eq_true rfl, Nat.le_of_ble_eq_true rfl⟩) ⟨pq_blindS, pq_recv hK hP hL_this hK_this (by decide) rfl, pq_preS hK hN hP hD hS hA hW0⟩ rfl rfl hl.1 rfl (lv_room (Nat.le_of_ble_eq_true rfl)) dX4_readClause_114 ⟨Nat.le_of_ble_eq_true rfl, Nat.le_of_ble_eq_true rfl⟩) hD hS hA (fun σ1 μ1 H locs hw_110 hP hD hS => ?_)
                obtain ⟨I_111, ri_112, hu_113, hg_114, hp_116, hp_117⟩ := hw_110
                obtain ⟨hu_113a, hu_113b⟩ := Prod.mk.inj hu_113
                rw [hu_113a, hu_113b] at hP hD
                have tt_118 := hp_116
                have tt_119 := hp_117
                have hG := GX.tr hG hg_114 (by decide)
                have tt_120 : (I_111 134 this).toInt = (I_74 134 this).toInt := by rw [hg_114.2.1 134 (by decide) (by decide)]
                have tt_121 : (I_111 256 this_draft).toInt = (I_74 256 this_draft).toInt := by rw [hg_114.2.1 256 (by decide) (by decide)]
                refine lv_goto (tgt := 128) hx hb dX4_readClause_117 (by decide) ?_
                refine lv_aload_n hx hb dX4_readClause_128 rfl (lv_at hl 1 rfl) ?_
                refine pg_f (v := .ref this_draft) (C := RX4) (T := TX4) (N := 12) hx hb hts (tw_i inlX4) hown hK hP hL_this hK_this (by decide) rfl 3 (by decide) (hts _ (tw_c tw_160)) (pq_hv rfl hR_this_draft) dX4_readClause_129 ?_
                refine pg_f (v := .ref this_draft_from) (C := RX8) (T := TX8) (N := 4) hx hb hts (tw_i inlX8) hown hK hP hL_this_draft hK_this_draft (by decide) rfl 2 (by decide) (hts _ (tw_c tw_747)) (pq_hv rfl hR_this_draft_from) dX4_readClause_132 ?_
                refine lv_aload_n hx hb dX4_readClause_135 rfl (lv_at hl 1 rfl) ?_
                refine pg_f (v := .ref this_draft) (C := RX4) (T := TX4) (N := 12) hx hb hts (tw_i inlX4) hown hK hP hL_this hK_this (by decide) rfl 3 (by decide) (hts _ (tw_c tw_160)) (pq_hv rfl hR_this_draft) dX4_readClause_136 ?_
                refine pg_f (v := .int (I_111 256 this_draft)) (C := RX8) (T := TX8) (N := 4) hx hb hts (tw_i inlX8) hown hK hP hL_this_draft hK_this_draft (by decide) rfl 0 (by decide) (hts _ (tw_c tw_745)) rfl dX4_readClause_139 ?_
                have h_122 : rg (I_111 256 this_draft) 1 20 := (by rw [hg_114.2.1 256 (by decide) (by decide)]; exact (by rw [eI_74, pq_us]; exact h_73))
                have uh_122 := h_122.1
                have vh_122 := h_122.2
                refine lv_aload_n hx hb dX4_readClause_142 rfl (lv_at hl 1 rfl) ?_
                refine pg_f (v := .int (I_111 132 this)) (C := RX4) (T := TX4) (N := 12) hx hb hts (tw_i inlX4) hown hK hP hL_this hK_this (by decide) rfl 4 (by decide) (hts _ (tw_c tw_656)) rfl dX4_readClause_143 ?_
                have h_123 : rg (I_111 132 this) 0 300 := GX.rI hG 132 rfl
                have uh_123 := h_123.1
                have vh_123 := h_123.2
                refine pt_i hx hb hK hP hD hS hL_this_draft_from hK_this_draft_from hN_this_draft_from (rg_in h_122 (by decide)) dX4_readClause_146 (fun r_124 H locs er_124 hP hD hS => ?_)
                have hG := GX.wF hG hfi hL_this_draft hK_this_draft hR_this_draft_from er_124 (rg_w h_123 (by decide)) (Int.le_refl _) hT_this_draft_from
                subst hQ
                exact W.vret hx hb hr (fun t1 ht hW => ⟨⟨(σ, I_111, J, r_124, rj, rq), rfl, ⟨I_111, r_124, rfl, hG, (by rw [er_124, va_up_self]; unfold upd; rw [if_pos rfl]), (by omega)⟩, by rw [ht]; exact hP, va_K.moved hW.alike hK, hD⟩, hS.F ht⟩) hS.2.2 dX4_readClause_147
            · have tc_125 : (I 194 this_scanner).toInt < 4 := Int32.lt_iff_toInt_lt.mp (nle c_81)
              exact (rg_empty (rg_lt1 (nle c_81) h_56 (rg_k (4 : Int32) 4 rfl) (lo := 4) (hi := 3) (by decide)) (by decide)).elim
          · have tc_126 : 20 ≤ (I 256 this_draft).toInt := Int32.le_iff_toInt_le.mp (nlt c_67)
            have h_127 : rg (I 256 this_draft) 20 20 := rg_le2 (nlt c_67) (rg_k (20 : Int32) 20 rfl) h_66 (by decide)
            have uh_127 := h_127.1
            have vh_127 := h_127.2
            refine lv_aload_n hx hb dX4_readClause_59 rfl (lv_at hl 1 rfl) ?_
            refine lv_iconst (v := 5) hx hb dX4_readClause_60 (by decide) ?_
            refine pk_v (va_runV (As := [.int 5]) (rest := []) ⟨hx, hb, hml, hown, hts⟩ (s_X4_refuse l D t σ I J ri rj rq H.size tg hSH hG.1 this (5 : Int32) hL_this hK_this (rg_w (rg_k (5 : Int32) 5 rfl) (by decide))) (cwV 1 hts (tw_V tw_748 tw_749 tw_750 tw_25 tw_751) rfl rfl rfl cv_yX4_refuse_1 ⟨Nat.le_of_ble_eq_true rfl, Nat.le_of_ble_eq_true rfl⟩) ⟨pq_blind, pq_recv hK hP hL_this hK_this (by decide) rfl, pq_pre hK hN hP hD⟩ rfl rfl hl.1 rfl (lv_room (Nat.le_of_ble_eq_true rfl)) dX4_readClause_61 ⟨Nat.le_of_ble_eq_true rfl, Nat.le_of_ble_eq_true rfl⟩) hD hS hA (fun σ1 μ1 H locs hw_129 hP hD hS => ?_)
            obtain ⟨I_130, hu_131, hg_132, hp_134⟩ := hw_129
            obtain ⟨hu_131a, hu_131b⟩ := Prod.mk.inj hu_131
            rw [hu_131a, hu_131b] at hP hD
            have tt_135 := hp_134
            have hG := GX.tr hG hg_132 (by decide)
            have tt_136 : (I_130 132 this).toInt = (I 132 this).toInt := by rw [hg_132.2.1 132 (by decide) (by decide)]
            have tt_137 : (I_130 134 this).toInt = (I 134 this).toInt := by rw [hg_132.2.1 134 (by decide) (by decide)]
            have tt_138 : (I_130 197 this_scanner).toInt = (I 197 this_scanner).toInt := by rw [hg_132.2.1 197 (by decide) (by decide)]
            have tt_139 : (I_130 194 this_scanner).toInt = (I 194 this_scanner).toInt := by rw [hg_132.2.1 194 (by decide) (by decide)]
            have tt_140 : (I_130 256 this_draft).toInt = (I 256 this_draft).toInt := by rw [hg_132.2.1 256 (by decide) (by decide)]
            refine lv_goto (tgt := 147) hx hb dX4_readClause_64 (by decide) ?_
            subst hQ
            exact W.vret hx hb hr (fun t1 ht hW => ⟨⟨(σ, I_130, J, ri, rj, rq), rfl, ⟨I_130, ri, rfl, hG, (by rw [show I_130 256 this_draft = I 256 this_draft from ((congrFun (hg_132.2.1 256 (by decide) (by decide)) this_draft).trans rfl)]; omega), (by omega)⟩, by rw [ht]; exact hP, va_K.moved hW.alike hK, hD⟩, hS.F ht⟩) hS.2.2 dX4_readClause_147
        · have tc_141 : (x_57).toInt ≠ (-1) := fun q => c_63 (Int32.toInt_inj.mp q)
          have h_142 : rg x_57 0 19 := rg_ne c_63 hr_61 (-1) rfl (by decide)
          have uh_142 := h_142.1
          have vh_142 := h_142.2
          refine lv_aload_n hx hb dX4_readClause_39 rfl (lv_at hl 1 rfl) ?_
          refine lv_iconst (v := 4) hx hb dX4_readClause_40 (by decide) ?_
          refine pk_v (va_runV (As := [.int 4]) (rest := []) ⟨hx, hb, hml, hown, hts⟩ (s_X4_refuse l D t σ I J ri rj rq H.size tg hSH hG.1 this (4 : Int32) hL_this hK_this (rg_w (rg_k (4 : Int32) 4 rfl) (by decide))) (cwV 1 hts (tw_V tw_748 tw_749 tw_750 tw_25 tw_751) rfl rfl rfl cv_yX4_refuse_1 ⟨Nat.le_of_ble_eq_true rfl, Nat.le_of_ble_eq_true rfl⟩) ⟨pq_blind, pq_recv hK hP hL_this hK_this (by decide) rfl, pq_pre hK hN hP hD⟩ rfl rfl hl.1 rfl (lv_room (Nat.le_of_ble_eq_true rfl)) dX4_readClause_41 ⟨Nat.le_of_ble_eq_true rfl, Nat.le_of_ble_eq_true rfl⟩) hD hS hA (fun σ1 μ1 H locs hw_144 hP hD hS => ?_)
          obtain ⟨I_145, hu_146, hg_147, hp_149⟩ := hw_144
          obtain ⟨hu_146a, hu_146b⟩ := Prod.mk.inj hu_146
          rw [hu_146a, hu_146b] at hP hD
          have tt_150 := hp_149
          have hG := GX.tr hG hg_147 (by decide)
          have tt_151 : (I_145 132 this).toInt = (I 132 this).toInt := by rw [hg_147.2.1 132 (by decide) (by decide)]
          have tt_152 : (I_145 134 this).toInt = (I 134 this).toInt := by rw [hg_147.2.1 134 (by decide) (by decide)]
          have tt_153 : (I_145 197 this_scanner).toInt = (I 197 this_scanner).toInt := by rw [hg_147.2.1 197 (by decide) (by decide)]
          have tt_154 : (I_145 194 this_scanner).toInt = (I 194 this_scanner).toInt := by rw [hg_147.2.1 194 (by decide) (by decide)]
          have tt_155 : (I_145 256 this_draft).toInt = (I 256 this_draft).toInt := by rw [hg_147.2.1 256 (by decide) (by decide)]
          refine lv_goto (tgt := 147) hx hb dX4_readClause_44 (by decide) ?_
          subst hQ
          exact W.vret hx hb hr (fun t1 ht hW => ⟨⟨(σ, I_145, J, ri, rj, rq), rfl, ⟨I_145, ri, rfl, hG, (by rw [show I_145 256 this_draft = I 256 this_draft from ((congrFun (hg_147.2.1 256 (by decide) (by decide)) this_draft).trans rfl)]; omega), (by omega)⟩, by rw [ht]; exact hP, va_K.moved hW.alike hK, hD⟩, hS.F ht⟩) hS.2.2 dX4_readClause_147
    · have tc_156 : 8 < (I 194 this_scanner).toInt := Int32.lt_iff_toInt_lt.mp (nle c_1)
      have h_157 : rg (I 194 this_scanner) 9 2147483647 := rg_lt2 (nle c_1) (rg_k (8 : Int32) 8 rfl) (rg_full _) (by decide)
      have uh_157 := h_157.1
      have vh_157 := h_157.2
      refine lv_aload_n hx hb dX4_readClause_14 rfl (lv_at hl 1 rfl) ?_
      refine lv_iconst (v := 1) hx hb dX4_readClause_15 (by decide) ?_
      refine pk_v (va_runV (As := [.int 1]) (rest := []) ⟨hx, hb, hml, hown, hts⟩ (s_X4_refuse l D t σ I J ri rj rq H.size tg hSH hG.1 this (1 : Int32) hL_this hK_this (rg_w (rg_k (1 : Int32) 1 rfl) (by decide))) (cwV 1 hts (tw_V tw_748 tw_749 tw_750 tw_25 tw_751) rfl rfl rfl cv_yX4_refuse_1 ⟨Nat.le_of_ble_eq_true rfl, Nat.le_of_ble_eq_true rfl⟩) ⟨pq_blind, pq_recv hK hP hL_this hK_this (by decide) rfl, pq_pre hK hN hP hD⟩ rfl rfl hl.1 rfl (lv_room (Nat.le_of_ble_eq_true rfl)) dX4_readClause_16 ⟨Nat.le_of_ble_eq_true rfl, Nat.le_of_ble_eq_true rfl⟩) hD hS hA (fun σ1 μ1 H locs hw_159 hP hD hS => ?_)
      obtain ⟨I_160, hu_161, hg_162, hp_164⟩ := hw_159
      obtain ⟨hu_161a, hu_161b⟩ := Prod.mk.inj hu_161
      rw [hu_161a, hu_161b] at hP hD
      have tt_165 := hp_164
      have hG := GX.tr hG hg_162 (by decide)
      have tt_166 : (I_160 132 this).toInt = (I 132 this).toInt := by rw [hg_162.2.1 132 (by decide) (by decide)]
      have tt_167 : (I_160 134 this).toInt = (I 134 this).toInt := by rw [hg_162.2.1 134 (by decide) (by decide)]
      have tt_168 : (I_160 197 this_scanner).toInt = (I 197 this_scanner).toInt := by rw [hg_162.2.1 197 (by decide) (by decide)]
      have tt_169 : (I_160 194 this_scanner).toInt = (I 194 this_scanner).toInt := by rw [hg_162.2.1 194 (by decide) (by decide)]
      have tt_170 : (I_160 256 this_draft).toInt = (I 256 this_draft).toInt := by rw [hg_162.2.1 256 (by decide) (by decide)]
      refine lv_goto (tgt := 147) hx hb dX4_readClause_19 (by decide) ?_
      subst hQ
      exact W.vret hx hb hr (fun t1 ht hW => ⟨⟨(σ, I_160, J, ri, rj, rq), rfl, ⟨I_160, ri, rfl, hG, (by rw [show I_160 256 this_draft = I 256 this_draft from ((congrFun (hg_162.2.1 256 (by decide) (by decide)) this_draft).trans rfl)]; omega), (by omega)⟩, by rw [ht]; exact hP, va_K.moved hW.alike hK, hD⟩, hS.F ht⟩) hS.2.2 dX4_readClause_147
  exact go _ _ _ hP hD hS hl
