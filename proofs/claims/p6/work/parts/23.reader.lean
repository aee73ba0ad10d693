theorem dX4_refuse_0 : decode cX4_refuse 0 = .ok (.aload_n 0, 1) := oc_42 (by decide +kernel)
theorem tw_155 : Cond.fieldLink RX4 18 "RingsUnder$Reader" "fault" "I" ∈ wsL_law := sg_7 _ (List.mem_of_getElem? (i := 11) rfl)
theorem dX4_refuse_1 : decode cX4_refuse 1 = .ok (.getfield 18, 3) := oc_180 (a := 0) (b := 18) (by decide +kernel)
theorem dX4_refuse_4 : decode cX4_refuse 4 = .ok (.ifCond .ne 19, 3) := oc_154 (a := 0) (b := 19) (by decide +kernel)
theorem dX4_refuse_23 : decode cX4_refuse 23 = .ok (.return_, 1) := oc_177 (by decide +kernel)
theorem dX4_refuse_7 : decode cX4_refuse 7 = .ok (.aload_n 0, 1) := oc_42 (by decide +kernel)
theorem dX4_refuse_8 : decode cX4_refuse 8 = .ok (.iload_n 1, 1) := oc_27 (by decide +kernel)
theorem dX4_refuse_9 : decode cX4_refuse 9 = .ok (.putfield 18, 3) := oc_181 (a := 0) (b := 18) (by decide +kernel)
theorem dX4_refuse_12 : decode cX4_refuse 12 = .ok (.aload_n 0, 1) := oc_42 (by decide +kernel)
theorem dX4_refuse_13 : decode cX4_refuse 13 = .ok (.aload_n 0, 1) := oc_42 (by decide +kernel)
theorem tw_154 : Cond.fieldLink RX4 12 "RingsUnder$Reader" "scanner" "LRingsUnder$Scanner;" ∈ wsL_law := sg_7 _ (List.mem_of_getElem? (i := 10) rfl)
theorem dX4_refuse_14 : decode cX4_refuse 14 = .ok (.getfield 12, 3) := oc_180 (a := 0) (b := 12) (by decide +kernel)
theorem tw_752 : Cond.fieldLink RX4 51 "RingsUnder$Scanner" "start" "I" ∈ wsL_law := sg_32 _ (List.mem_of_getElem? (i := 8) rfl)
theorem dX4_refuse_17 : decode cX4_refuse 17 = .ok (.getfield 51, 3) := oc_180 (a := 0) (b := 51) (by decide +kernel)
theorem tw_156 : Cond.fieldLink RX4 22 "RingsUnder$Reader" "place" "I" ∈ wsL_law := sg_7 _ (List.mem_of_getElem? (i := 12) rfl)
theorem dX4_refuse_20 : decode cX4_refuse 20 = .ok (.putfield 22, 3) := oc_181 (a := 0) (b := 22) (by decide +kernel)
theorem dX4_emit_0 : decode cX4_emit 0 = .ok (.aload_n 0, 1) := oc_42 (by decide +kernel)
theorem tw_656 : Cond.fieldLink RX4 36 "RingsUnder$Reader" "codes" "I" ∈ wsL_law := sg_28 _ (List.mem_of_getElem? (i := 8) rfl)
theorem dX4_emit_1 : decode cX4_emit 1 = .ok (.getfield 36, 3) := oc_180 (a := 0) (b := 36) (by decide +kernel)
theorem dX4_emit_4 : decode cX4_emit 4 = .ok (.sipush 300, 3) := oc_17 (a := 1) (b := 44) (by decide +kernel)
theorem dX4_emit_7 : decode cX4_emit 7 = .ok (.if_icmp .ge 26, 3) := oc_162 (a := 0) (b := 26) (by decide +kernel)
theorem dX4_emit_33 : decode cX4_emit 33 = .ok (.return_, 1) := oc_177 (by decide +kernel)
theorem dX4_emit_10 : decode cX4_emit 10 = .ok (.aload_n 0, 1) := oc_42 (by decide +kernel)
theorem tw_160 : Cond.fieldLink RX4 28 "RingsUnder$Reader" "draft" "LRingsUnder$Text;" ∈ wsL_law := sg_7 _ (List.mem_of_getElem? (i := 16) rfl)
theorem dX4_emit_11 : decode cX4_emit 11 = .ok (.getfield 28, 3) := oc_180 (a := 0) (b := 28) (by decide +kernel)
theorem tw_773 : Cond.fieldLink RX4 54 "RingsUnder$Text" "code" "[I" ∈ wsL_law := sg_33 _ (List.mem_of_getElem? (i := 5) rfl)
theorem dX4_emit_14 : decode cX4_emit 14 = .ok (.getfield 54, 3) := oc_180 (a := 0) (b := 54) (by decide +kernel)
theorem dX4_emit_17 : decode cX4_emit 17 = .ok (.aload_n 0, 1) := oc_42 (by decide +kernel)
theorem dX4_emit_18 : decode cX4_emit 18 = .ok (.getfield 36, 3) := oc_180 (a := 0) (b := 36) (by decide +kernel)
theorem dX4_emit_21 : decode cX4_emit 21 = .ok (.iload_n 1, 1) := oc_27 (by decide +kernel)
theorem dX4_emit_22 : decode cX4_emit 22 = .ok (.iastore, 1) := oc_79 (by decide +kernel)
theorem dX4_emit_23 : decode cX4_emit 23 = .ok (.aload_n 0, 1) := oc_42 (by decide +kernel)
theorem dX4_emit_24 : decode cX4_emit 24 = .ok (.dup, 1) := oc_89 (by decide +kernel)
theorem dX4_emit_25 : decode cX4_emit 25 = .ok (.getfield 36, 3) := oc_180 (a := 0) (b := 36) (by decide +kernel)
theorem dX4_emit_28 : decode cX4_emit 28 = .ok (.iconst 1, 1) := oc_4 (by decide +kernel)
theorem dX4_emit_29 : decode cX4_emit 29 = .ok (.iadd, 1) := oc_96 (by decide +kernel)
theorem dX4_emit_30 : decode cX4_emit 30 = .ok (.putfield 36, 3) := oc_181 (a := 0) (b := 36) (by decide +kernel)
theorem dX4_isName_0 : decode cX4_isName 0 = .ok (.iload_n 0, 1) := oc_26 (by decide +kernel)
theorem dX4_isName_1 : decode cX4_isName 1 = .ok (.bipush 12, 2) := oc_16 (a := 12) (by decide +kernel)
theorem dX4_isName_3 : decode cX4_isName 3 = .ok (.if_icmp .lt 13, 3) := oc_161 (a := 0) (b := 13) (by decide +kernel)
theorem dX4_isName_16 : decode cX4_isName 16 = .ok (.iconst 0, 1) := oc_3 (by decide +kernel)
theorem dX4_isName_17 : decode cX4_isName 17 = .ok (.ireturn, 1) := oc_172 (by decide +kernel)
theorem dX4_isName_6 : decode cX4_isName 6 = .ok (.iload_n 0, 1) := oc_26 (by decide +kernel)
theorem dX4_isName_7 : decode cX4_isName 7 = .ok (.bipush 17, 2) := oc_16 (a := 17) (by decide +kernel)
theorem dX4_isName_9 : decode cX4_isName 9 = .ok (.if_icmp .gt 7, 3) := oc_163 (a := 0) (b := 7) (by decide +kernel)
theorem dX4_isName_12 : decode cX4_isName 12 = .ok (.iconst 1, 1) := oc_4 (by decide +kernel)
theorem dX4_isName_13 : decode cX4_isName 13 = .ok (.goto 4, 3) := oc_167 (a := 0) (b := 4) (by decide +kernel)
theorem dX4_await_0 : decode cX4_await 0 = .ok (.aload_n 0, 1) := oc_42 (by decide +kernel)
theorem tw_758 : Cond.fieldLink RX4 102 "RingsUnder$Reader" "waits" "I" ∈ wsL_law := sg_32 _ (List.mem_of_getElem? (i := 14) rfl)
theorem dX4_await_1 : decode cX4_await 1 = .ok (.getfield 102, 3) := oc_180 (a := 0) (b := 102) (by decide +kernel)
theorem dX4_await_4 : decode cX4_await 4 = .ok (.aload_n 0, 1) := oc_42 (by decide +kernel)
theorem tw_161 : Cond.fieldLink RX4 32 "RingsUnder$Reader" "waiting" "[I" ∈ wsL_law := sg_7 _ (List.mem_of_getElem? (i := 17) rfl)
theorem dX4_await_5 : decode cX4_await 5 = .ok (.getfield 32, 3) := oc_180 (a := 0) (b := 32) (by decide +kernel)
theorem dX4_await_8 : decode cX4_await 8 = .ok (.arraylength, 1) := oc_190 (by decide +kernel)
theorem dX4_await_9 : decode cX4_await 9 = .ok (.if_icmp .ge 23, 3) := oc_162 (a := 0) (b := 23) (by decide +kernel)
theorem dX4_await_32 : decode cX4_await 32 = .ok (.return_, 1) := oc_177 (by decide +kernel)
theorem dX4_await_12 : decode cX4_await 12 = .ok (.aload_n 0, 1) := oc_42 (by decide +kernel)
theorem dX4_await_13 : decode cX4_await 13 = .ok (.getfield 32, 3) := oc_180 (a := 0) (b := 32) (by decide +kernel)
theorem dX4_await_16 : decode cX4_await 16 = .ok (.aload_n 0, 1) := oc_42 (by decide +kernel)
theorem dX4_await_17 : decode cX4_await 17 = .ok (.getfield 102, 3) := oc_180 (a := 0) (b := 102) (by decide +kernel)
theorem dX4_await_20 : decode cX4_await 20 = .ok (.iload_n 1, 1) := oc_27 (by decide +kernel)
theorem dX4_await_21 : decode cX4_await 21 = .ok (.iastore, 1) := oc_79 (by decide +kernel)
theorem dX4_await_22 : decode cX4_await 22 = .ok (.aload_n 0, 1) := oc_42 (by decide +kernel)
theorem dX4_await_23 : decode cX4_await 23 = .ok (.dup, 1) := oc_89 (by decide +kernel)
theorem dX4_await_24 : decode cX4_await 24 = .ok (.getfield 102, 3) := oc_180 (a := 0) (b := 102) (by decide +kernel)
theorem dX4_await_27 : decode cX4_await 27 = .ok (.iconst 1, 1) := oc_4 (by decide +kernel)
theorem dX4_await_28 : decode cX4_await 28 = .ok (.iadd, 1) := oc_96 (by decide +kernel)
theorem dX4_await_29 : decode cX4_await 29 = .ok (.putfield 102, 3) := oc_181 (a := 0) (b := 102) (by decide +kernel)
theorem dX4_openUp_0 : decode cX4_openUp 0 = .ok (.aload_n 0, 1) := oc_42 (by decide +kernel)
theorem tw_759 : Cond.fieldLink RX4 105 "RingsUnder$Reader" "open" "I" ∈ wsL_law := sg_32 _ (List.mem_of_getElem? (i := 15) rfl)
theorem dX4_openUp_1 : decode cX4_openUp 1 = .ok (.getfield 105, 3) := oc_180 (a := 0) (b := 105) (by decide +kernel)
theorem dX4_openUp_4 : decode cX4_openUp 4 = .ok (.bipush 8, 2) := oc_16 (a := 8) (by decide +kernel)
theorem dX4_openUp_6 : decode cX4_openUp 6 = .ok (.if_icmp .lt 8, 3) := oc_161 (a := 0) (b := 8) (by decide +kernel)
theorem dX4_openUp_14 : decode cX4_openUp 14 = .ok (.aload_n 0, 1) := oc_42 (by decide +kernel)
theorem dX4_openUp_15 : decode cX4_openUp 15 = .ok (.dup, 1) := oc_89 (by decide +kernel)
theorem dX4_openUp_16 : decode cX4_openUp 16 = .ok (.getfield 105, 3) := oc_180 (a := 0) (b := 105) (by decide +kernel)
theorem dX4_openUp_19 : decode cX4_openUp 19 = .ok (.iconst 1, 1) := oc_4 (by decide +kernel)
theorem dX4_openUp_20 : decode cX4_openUp 20 = .ok (.iadd, 1) := oc_96 (by decide +kernel)
theorem dX4_openUp_21 : decode cX4_openUp 21 = .ok (.putfield 105, 3) := oc_181 (a := 0) (b := 105) (by decide +kernel)
theorem dX4_openUp_24 : decode cX4_openUp 24 = .ok (.iload_n 1, 1) := oc_27 (by decide +kernel)
theorem dX4_openUp_25 : decode cX4_openUp 25 = .ok (.bipush 29, 2) := oc_16 (a := 29) (by decide +kernel)
theorem dX4_openUp_27 : decode cX4_openUp 27 = .ok (.if_icmp .ne 13, 3) := oc_160 (a := 0) (b := 13) (by decide +kernel)
theorem dX4_openUp_40 : decode cX4_openUp 40 = .ok (.aload_n 0, 1) := oc_42 (by decide +kernel)
theorem dX4_openUp_41 : decode cX4_openUp 41 = .ok (.iload_n 1, 1) := oc_27 (by decide +kernel)
theorem dX4_openUp_42 : decode cX4_openUp 42 = .ok (.bipush 11, 2) := oc_16 (a := 11) (by decide +kernel)
theorem dX4_openUp_44 : decode cX4_openUp 44 = .ok (.if_icmp .ne 7, 3) := oc_160 (a := 0) (b := 7) (by decide +kernel)
theorem dX4_openUp_51 : decode cX4_openUp 51 = .ok (.iconst 0, 1) := oc_3 (by decide +kernel)
theorem tw_761 : Cond.fieldLink RX4 111 "RingsUnder$Reader" "atAsk" "Z" ∈ wsL_law := sg_32 _ (List.mem_of_getElem? (i := 17) rfl)
theorem dX4_openUp_52 : decode cX4_openUp 52 = .ok (.putfield 111, 3) := oc_181 (a := 0) (b := 111) (by decide +kernel)
theorem dX4_openUp_55 : decode cX4_openUp 55 = .ok (.aload_n 0, 1) := oc_42 (by decide +kernel)
theorem dX4_openUp_56 : decode cX4_openUp 56 = .ok (.iload_n 1, 1) := oc_27 (by decide +kernel)
theorem tw_781 : Cond.methodLink RX4 131 yX4_await ∈ wsL_law := sg_33 _ (List.mem_of_getElem? (i := 13) rfl)
theorem tw_782 : Cond.instanceMethod yX4_await ∈ wsL_law := sg_33 _ (List.mem_of_getElem? (i := 14) rfl)
theorem tw_783 : Cond.selects RX4 yX4_await yX4_await ∈ wsL_law := sg_33 _ (List.mem_of_getElem? (i := 15) rfl)
theorem tw_25 : Cond.initialized RX4 ∈ wsL_law := sg_2 _ (List.mem_of_getElem? (i := 1) rfl)
theorem tw_784 : Cond.code yX4_await cX4_await 2 none ∈ wsL_law := sg_33 _ (List.mem_of_getElem? (i := 16) rfl)
theorem dX4_openUp_57 : decode cX4_openUp 57 = .ok (.invokevirtual 131, 3) := oc_182 (a := 0) (b := 131) (by decide +kernel)
theorem dX4_openUp_60 : decode cX4_openUp 60 = .ok (.return_, 1) := oc_177 (by decide +kernel)
theorem dX4_openUp_47 : decode cX4_openUp 47 = .ok (.iconst 1, 1) := oc_4 (by decide +kernel)
theorem dX4_openUp_48 : decode cX4_openUp 48 = .ok (.goto 4, 3) := oc_167 (a := 0) (b := 4) (by decide +kernel)
theorem dX4_openUp_30 : decode cX4_openUp 30 = .ok (.aload_n 0, 1) := oc_42 (by decide +kernel)
theorem dX4_openUp_31 : decode cX4_openUp 31 = .ok (.dup, 1) := oc_89 (by decide +kernel)
theorem tw_760 : Cond.fieldLink RX4 108 "RingsUnder$Reader" "brackets" "I" ∈ wsL_law := sg_32 _ (List.mem_of_getElem? (i := 16) rfl)
theorem dX4_openUp_32 : decode cX4_openUp 32 = .ok (.getfield 108, 3) := oc_180 (a := 0) (b := 108) (by decide +kernel)
theorem dX4_openUp_35 : decode cX4_openUp 35 = .ok (.iconst 1, 1) := oc_4 (by decide +kernel)
theorem dX4_openUp_36 : decode cX4_openUp 36 = .ok (.iadd, 1) := oc_96 (by decide +kernel)
theorem dX4_openUp_37 : decode cX4_openUp 37 = .ok (.putfield 108, 3) := oc_181 (a := 0) (b := 108) (by decide +kernel)
theorem dX4_openUp_9 : decode cX4_openUp 9 = .ok (.aload_n 0, 1) := oc_42 (by decide +kernel)
theorem dX4_openUp_10 : decode cX4_openUp 10 = .ok (.iconst 3, 1) := oc_6 (by decide +kernel)
theorem tw_748 : Cond.methodLink RX4 57 yX4_refuse ∈ wsL_law := sg_32 _ (List.mem_of_getElem? (i := 4) rfl)
theorem tw_749 : Cond.instanceMethod yX4_refuse ∈ wsL_law := sg_32 _ (List.mem_of_getElem? (i := 5) rfl)
theorem tw_750 : Cond.selects RX4 yX4_refuse yX4_refuse ∈ wsL_law := sg_32 _ (List.mem_of_getElem? (i := 6) rfl)
theorem tw_751 : Cond.code yX4_refuse cX4_refuse 2 none ∈ wsL_law := sg_32 _ (List.mem_of_getElem? (i := 7) rfl)
theorem dX4_openUp_11 : decode cX4_openUp 11 = .ok (.invokevirtual 57, 3) := oc_182 (a := 0) (b := 57) (by decide +kernel)
theorem dX4_readOne_0 : decode cX4_readOne 0 = .ok (.aload_n 0, 1) := oc_42 (by decide +kernel)
theorem dX4_readOne_1 : decode cX4_readOne 1 = .ok (.getfield 12, 3) := oc_180 (a := 0) (b := 12) (by decide +kernel)
theorem tw_657 : Cond.fieldLink RX4 45 "RingsUnder$Scanner" "token" "I" ∈ wsL_law := sg_28 _ (List.mem_of_getElem? (i := 9) rfl)
theorem dX4_readOne_4 : decode cX4_readOne 4 = .ok (.getfield 45, 3) := oc_180 (a := 0) (b := 45) (by decide +kernel)
theorem dX4_readOne_7 : decode cX4_readOne 7 = .ok (.istore_n 1, 1) := oc_60 (by decide +kernel)
theorem dX4_readOne_8 : decode cX4_readOne 8 = .ok (.iload_n 1, 1) := oc_27 (by decide +kernel)
theorem dX4_readOne_9 : decode cX4_readOne 9 = .ok (.bipush 18, 2) := oc_16 (a := 18) (by decide +kernel)
theorem dX4_readOne_11 : decode cX4_readOne 11 = .ok (.if_icmp .ne 34, 3) := oc_160 (a := 0) (b := 34) (by decide +kernel)
theorem dX4_readOne_45 : decode cX4_readOne 45 = .ok (.iload_n 1, 1) := oc_27 (by decide +kernel)
theorem tw_774 : Cond.methodLink RX4 98 yX4_isName ∈ wsL_law := sg_33 _ (List.mem_of_getElem? (i := 6) rfl)
theorem tw_775 : Cond.static yX4_isName ∈ wsL_law := sg_33 _ (List.mem_of_getElem? (i := 7) rfl)
theorem tw_776 : Cond.code yX4_isName cX4_isName 1 (some .boolean) ∈ wsL_law := sg_33 _ (List.mem_of_getElem? (i := 8) rfl)
theorem dX4_readOne_46 : decode cX4_readOne 46 = .ok (.invokestatic 98, 3) := oc_184 (a := 0) (b := 98) (by decide +kernel)
theorem dX4_readOne_49 : decode cX4_readOne 49 = .ok (.ifCond .eq 11, 3) := oc_153 (a := 0) (b := 11) (by decide +kernel)
theorem dX4_readOne_60 : decode cX4_readOne 60 = .ok (.iload_n 1, 1) := oc_27 (by decide +kernel)
theorem dX4_readOne_61 : decode cX4_readOne 61 = .ok (.bipush 26, 2) := oc_16 (a := 26) (by decide +kernel)
theorem dX4_readOne_63 : decode cX4_readOne 63 = .ok (.if_icmp .eq 22, 3) := oc_159 (a := 0) (b := 22) (by decide +kernel)
theorem dX4_readOne_85 : decode cX4_readOne 85 = .ok (.aload_n 0, 1) := oc_42 (by decide +kernel)
theorem dX4_readOne_86 : decode cX4_readOne 86 = .ok (.iload_n 1, 1) := oc_27 (by decide +kernel)
theorem dX4_readOne_87 : decode cX4_readOne 87 = .ok (.bipush 26, 2) := oc_16 (a := 26) (by decide +kernel)
theorem dX4_readOne_89 : decode cX4_readOne 89 = .ok (.if_icmp .ne 8, 3) := oc_160 (a := 0) (b := 8) (by decide +kernel)
theorem dX4_readOne_92 : decode cX4_readOne 92 = .ok (.bipush 35, 2) := oc_16 (a := 35) (by decide +kernel)
theorem dX4_readOne_94 : decode cX4_readOne 94 = .ok (.goto 4, 3) := oc_167 (a := 0) (b := 4) (by decide +kernel)
theorem tw_777 : Cond.methodLink RX4 128 yX4_openUp ∈ wsL_law := sg_33 _ (List.mem_of_getElem? (i := 9) rfl)
theorem tw_778 : Cond.instanceMethod yX4_openUp ∈ wsL_law := sg_33 _ (List.mem_of_getElem? (i := 10) rfl)
theorem tw_779 : Cond.selects RX4 yX4_openUp yX4_openUp ∈ wsL_law := sg_33 _ (List.mem_of_getElem? (i := 11) rfl)
theorem tw_780 : Cond.code yX4_openUp cX4_openUp 2 none ∈ wsL_law := sg_33 _ (List.mem_of_getElem? (i := 12) rfl)
theorem dX4_readOne_98 : decode cX4_readOne 98 = .ok (.invokevirtual 128, 3) := oc_182 (a := 0) (b := 128) (by decide +kernel)
theorem dX4_readOne_101 : decode cX4_readOne 101 = .ok (.goto 8, 3) := oc_167 (a := 0) (b := 8) (by decide +kernel)
theorem dX4_readOne_109 : decode cX4_readOne 109 = .ok (.iconst 1, 1) := oc_4 (by decide +kernel)
theorem dX4_readOne_110 : decode cX4_readOne 110 = .ok (.ireturn, 1) := oc_172 (by decide +kernel)
theorem dX4_readOne_66 : decode cX4_readOne 66 = .ok (.iload_n 1, 1) := oc_27 (by decide +kernel)
theorem dX4_readOne_67 : decode cX4_readOne 67 = .ok (.bipush 29, 2) := oc_16 (a := 29) (by decide +kernel)
theorem dX4_readOne_69 : decode cX4_readOne 69 = .ok (.if_icmp .eq 16, 3) := oc_159 (a := 0) (b := 16) (by decide +kernel)
theorem dX4_readOne_97 : decode cX4_readOne 97 = .ok (.iload_n 1, 1) := oc_27 (by decide +kernel)
theorem dX4_readOne_72 : decode cX4_readOne 72 = .ok (.iload_n 1, 1) := oc_27 (by decide +kernel)
theorem dX4_readOne_73 : decode cX4_readOne 73 = .ok (.bipush 11, 2) := oc_16 (a := 11) (by decide +kernel)
theorem dX4_readOne_75 : decode cX4_readOne 75 = .ok (.if_icmp .ne 29, 3) := oc_160 (a := 0) (b := 29) (by decide +kernel)
theorem dX4_readOne_104 : decode cX4_readOne 104 = .ok (.aload_n 0, 1) := oc_42 (by decide +kernel)
theorem dX4_readOne_105 : decode cX4_readOne 105 = .ok (.iconst 1, 1) := oc_4 (by decide +kernel)
theorem dX4_readOne_106 : decode cX4_readOne 106 = .ok (.invokevirtual 57, 3) := oc_182 (a := 0) (b := 57) (by decide +kernel)
theorem dX4_readOne_78 : decode cX4_readOne 78 = .ok (.aload_n 0, 1) := oc_42 (by decide +kernel)
theorem dX4_readOne_79 : decode cX4_readOne 79 = .ok (.getfield 111, 3) := oc_180 (a := 0) (b := 111) (by decide +kernel)
theorem dX4_readOne_82 : decode cX4_readOne 82 = .ok (.ifCond .eq 22, 3) := oc_153 (a := 0) (b := 22) (by decide +kernel)
theorem dX4_readOne_52 : decode cX4_readOne 52 = .ok (.aload_n 0, 1) := oc_42 (by decide +kernel)
theorem dX4_readOne_53 : decode cX4_readOne 53 = .ok (.iload_n 1, 1) := oc_27 (by decide +kernel)
theorem dX4_readOne_54 : decode cX4_readOne 54 = .ok (.ineg, 1) := oc_116 (by decide +kernel)
theorem tw_769 : Cond.methodLink RX4 89 yX4_emit ∈ wsL_law := sg_33 _ (List.mem_of_getElem? (i := 1) rfl)
theorem tw_770 : Cond.instanceMethod yX4_emit ∈ wsL_law := sg_33 _ (List.mem_of_getElem? (i := 2) rfl)
theorem tw_771 : Cond.selects RX4 yX4_emit yX4_emit ∈ wsL_law := sg_33 _ (List.mem_of_getElem? (i := 3) rfl)
theorem tw_772 : Cond.code yX4_emit cX4_emit 2 none ∈ wsL_law := sg_33 _ (List.mem_of_getElem? (i := 4) rfl)
theorem dX4_readOne_55 : decode cX4_readOne 55 = .ok (.invokevirtual 89, 3) := oc_182 (a := 0) (b := 89) (by decide +kernel)
theorem dX4_readOne_58 : decode cX4_readOne 58 = .ok (.iconst 0, 1) := oc_3 (by decide +kernel)
theorem dX4_readOne_59 : decode cX4_readOne 59 = .ok (.ireturn, 1) := oc_172 (by decide +kernel)
theorem dX4_readOne_14 : decode cX4_readOne 14 = .ok (.aload_n 0, 1) := oc_42 (by decide +kernel)
theorem dX4_readOne_15 : decode cX4_readOne 15 = .ok (.getfield 12, 3) := oc_180 (a := 0) (b := 12) (by decide +kernel)
theorem tw_768 : Cond.fieldLink RX4 86 "RingsUnder$Scanner" "value" "I" ∈ wsL_law := sg_33 _ (List.mem_of_getElem? (i := 0) rfl)
theorem dX4_readOne_18 : decode cX4_readOne 18 = .ok (.getfield 86, 3) := oc_180 (a := 0) (b := 86) (by decide +kernel)
theorem dX4_readOne_21 : decode cX4_readOne 21 = .ok (.sipush 9999, 3) := oc_17 (a := 39) (b := 15) (by decide +kernel)
theorem dX4_readOne_24 : decode cX4_readOne 24 = .ok (.if_icmp .le 8, 3) := oc_164 (a := 0) (b := 8) (by decide +kernel)
theorem dX4_readOne_32 : decode cX4_readOne 32 = .ok (.aload_n 0, 1) := oc_42 (by decide +kernel)
theorem dX4_readOne_33 : decode cX4_readOne 33 = .ok (.aload_n 0, 1) := oc_42 (by decide +kernel)
theorem dX4_readOne_34 : decode cX4_readOne 34 = .ok (.getfield 12, 3) := oc_180 (a := 0) (b := 12) (by decide +kernel)
theorem dX4_readOne_37 : decode cX4_readOne 37 = .ok (.getfield 86, 3) := oc_180 (a := 0) (b := 86) (by decide +kernel)
theorem dX4_readOne_40 : decode cX4_readOne 40 = .ok (.invokevirtual 89, 3) := oc_182 (a := 0) (b := 89) (by decide +kernel)
theorem dX4_readOne_43 : decode cX4_readOne 43 = .ok (.iconst 0, 1) := oc_3 (by decide +kernel)
theorem dX4_readOne_44 : decode cX4_readOne 44 = .ok (.ireturn, 1) := oc_172 (by decide +kernel)
theorem dX4_readOne_27 : decode cX4_readOne 27 = .ok (.aload_n 0, 1) := oc_42 (by decide +kernel)
theorem dX4_readOne_28 : decode cX4_readOne 28 = .ok (.iconst 2, 1) := oc_5 (by decide +kernel)
theorem dX4_readOne_29 : decode cX4_readOne 29 = .ok (.invokevirtual 57, 3) := oc_182 (a := 0) (b := 57) (by decide +kernel)
theorem dX4_rank_0 : decode cX4_rank 0 = .ok (.iload_n 0, 1) := oc_26 (by decide +kernel)
theorem dX4_rank_1 : decode cX4_rank 1 = .ok (.tableswitch 139 9 35 #[123, 125, 127, 139, 139, 139, 139, 139, 139, 139, 139, 139, 139, 139, 139, 139, 129, 129, 131, 131, 137, 139, 139, 139, 139, 139, 134], 123) := by decide +kernel
theorem dX4_rank_124 : decode cX4_rank 124 = .ok (.iconst 1, 1) := oc_4 (by decide +kernel)
theorem dX4_rank_125 : decode cX4_rank 125 = .ok (.ireturn, 1) := oc_172 (by decide +kernel)
theorem dX4_rank_126 : decode cX4_rank 126 = .ok (.iconst 2, 1) := oc_5 (by decide +kernel)
theorem dX4_rank_127 : decode cX4_rank 127 = .ok (.ireturn, 1) := oc_172 (by decide +kernel)
theorem dX4_rank_128 : decode cX4_rank 128 = .ok (.iconst 3, 1) := oc_6 (by decide +kernel)
theorem dX4_rank_129 : decode cX4_rank 129 = .ok (.ireturn, 1) := oc_172 (by decide +kernel)
theorem dX4_rank_140 : decode cX4_rank 140 = .ok (.iconst 4, 1) := oc_7 (by decide +kernel)
theorem dX4_rank_141 : decode cX4_rank 141 = .ok (.ireturn, 1) := oc_172 (by decide +kernel)
theorem dX4_rank_130 : decode cX4_rank 130 = .ok (.iconst 5, 1) := oc_8 (by decide +kernel)
theorem dX4_rank_131 : decode cX4_rank 131 = .ok (.ireturn, 1) := oc_172 (by decide +kernel)
theorem dX4_rank_132 : decode cX4_rank 132 = .ok (.bipush 6, 2) := oc_16 (a := 6) (by decide +kernel)
theorem dX4_rank_134 : decode cX4_rank 134 = .ok (.ireturn, 1) := oc_172 (by decide +kernel)
theorem dX4_rank_138 : decode cX4_rank 138 = .ok (.iconst 0, 1) := oc_3 (by decide +kernel)
theorem dX4_rank_139 : decode cX4_rank 139 = .ok (.ireturn, 1) := oc_172 (by decide +kernel)
theorem dX4_rank_135 : decode cX4_rank 135 = .ok (.bipush 7, 2) := oc_16 (a := 7) (by decide +kernel)
theorem dX4_rank_137 : decode cX4_rank 137 = .ok (.ireturn, 1) := oc_172 (by decide +kernel)
theorem dX4_settle_0 : decode cX4_settle 0 = .ok (.aload_n 0, 1) := oc_42 (by decide +kernel)
theorem dX4_settle_1 : decode cX4_settle 1 = .ok (.getfield 102, 3) := oc_180 (a := 0) (b := 102) (by decide +kernel)
theorem dX4_settle_4 : decode cX4_settle 4 = .ok (.ifCond .le 72, 3) := oc_158 (a := 0) (b := 72) (by decide +kernel)
theorem dX4_settle_76 : decode cX4_settle 76 = .ok (.return_, 1) := oc_177 (by decide +kernel)
theorem dX4_settle_7 : decode cX4_settle 7 = .ok (.aload_n 0, 1) := oc_42 (by decide +kernel)
theorem dX4_settle_8 : decode cX4_settle 8 = .ok (.getfield 32, 3) := oc_180 (a := 0) (b := 32) (by decide +kernel)
theorem dX4_settle_11 : decode cX4_settle 11 = .ok (.aload_n 0, 1) := oc_42 (by decide +kernel)
theorem dX4_settle_12 : decode cX4_settle 12 = .ok (.getfield 102, 3) := oc_180 (a := 0) (b := 102) (by decide +kernel)
theorem dX4_settle_15 : decode cX4_settle 15 = .ok (.iconst 1, 1) := oc_4 (by decide +kernel)
theorem dX4_settle_16 : decode cX4_settle 16 = .ok (.isub, 1) := oc_100 (by decide +kernel)
theorem dX4_settle_17 : decode cX4_settle 17 = .ok (.iaload, 1) := oc_46 (by decide +kernel)
theorem tw_790 : Cond.methodLink RX4 134 yX4_rank ∈ wsL_law := sg_33 _ (List.mem_of_getElem? (i := 22) rfl)
theorem tw_791 : Cond.static yX4_rank ∈ wsL_law := sg_33 _ (List.mem_of_getElem? (i := 23) rfl)
theorem tw_792 : Cond.code yX4_rank cX4_rank 1 (some .int) ∈ wsL_law := sg_34 _ (List.mem_of_getElem? (i := 0) rfl)
theorem dX4_settle_18 : decode cX4_settle 18 = .ok (.invokestatic 134, 3) := oc_184 (a := 0) (b := 134) (by decide +kernel)
theorem dX4_settle_21 : decode cX4_settle 21 = .ok (.iload_n 1, 1) := oc_27 (by decide +kernel)
theorem dX4_settle_22 : decode cX4_settle 22 = .ok (.if_icmp .lt 54, 3) := oc_161 (a := 0) (b := 54) (by decide +kernel)
theorem dX4_settle_25 : decode cX4_settle 25 = .ok (.aload_n 0, 1) := oc_42 (by decide +kernel)
theorem dX4_settle_26 : decode cX4_settle 26 = .ok (.dup, 1) := oc_89 (by decide +kernel)
theorem dX4_settle_27 : decode cX4_settle 27 = .ok (.getfield 102, 3) := oc_180 (a := 0) (b := 102) (by decide +kernel)
theorem dX4_settle_30 : decode cX4_settle 30 = .ok (.iconst 1, 1) := oc_4 (by decide +kernel)
theorem dX4_settle_31 : decode cX4_settle 31 = .ok (.isub, 1) := oc_100 (by decide +kernel)
theorem dX4_settle_32 : decode cX4_settle 32 = .ok (.putfield 102, 3) := oc_181 (a := 0) (b := 102) (by decide +kernel)
theorem dX4_settle_35 : decode cX4_settle 35 = .ok (.aload_n 0, 1) := oc_42 (by decide +kernel)
theorem dX4_settle_36 : decode cX4_settle 36 = .ok (.getfield 32, 3) := oc_180 (a := 0) (b := 32) (by decide +kernel)
theorem dX4_settle_39 : decode cX4_settle 39 = .ok (.aload_n 0, 1) := oc_42 (by decide +kernel)
theorem dX4_settle_40 : decode cX4_settle 40 = .ok (.getfield 102, 3) := oc_180 (a := 0) (b := 102) (by decide +kernel)
theorem dX4_settle_43 : decode cX4_settle 43 = .ok (.iaload, 1) := oc_46 (by decide +kernel)
theorem dX4_settle_44 : decode cX4_settle 44 = .ok (.istore_n 2, 1) := oc_61 (by decide +kernel)
theorem dX4_settle_45 : decode cX4_settle 45 = .ok (.aload_n 0, 1) := oc_42 (by decide +kernel)
theorem dX4_settle_46 : decode cX4_settle 46 = .ok (.iload_n 2, 1) := oc_28 (by decide +kernel)
theorem dX4_settle_47 : decode cX4_settle 47 = .ok (.ineg, 1) := oc_116 (by decide +kernel)
theorem dX4_settle_48 : decode cX4_settle 48 = .ok (.invokevirtual 89, 3) := oc_182 (a := 0) (b := 89) (by decide +kernel)
theorem dX4_settle_51 : decode cX4_settle 51 = .ok (.iload_n 2, 1) := oc_28 (by decide +kernel)
theorem dX4_settle_52 : decode cX4_settle 52 = .ok (.bipush 11, 2) := oc_16 (a := 11) (by decide +kernel)
theorem dX4_settle_54 : decode cX4_settle 54 = .ok (.if_icmp .eq 9, 3) := oc_159 (a := 0) (b := 9) (by decide +kernel)
theorem dX4_settle_63 : decode cX4_settle 63 = .ok (.aload_n 0, 1) := oc_42 (by decide +kernel)
theorem dX4_settle_64 : decode cX4_settle 64 = .ok (.dup, 1) := oc_89 (by decide +kernel)
theorem dX4_settle_65 : decode cX4_settle 65 = .ok (.getfield 105, 3) := oc_180 (a := 0) (b := 105) (by decide +kernel)
theorem dX4_settle_68 : decode cX4_settle 68 = .ok (.iconst 1, 1) := oc_4 (by decide +kernel)
theorem dX4_settle_69 : decode cX4_settle 69 = .ok (.isub, 1) := oc_100 (by decide +kernel)
theorem dX4_settle_70 : decode cX4_settle 70 = .ok (.putfield 105, 3) := oc_181 (a := 0) (b := 105) (by decide +kernel)
theorem dX4_settle_73 : decode cX4_settle 73 = .ok (.goto (-73), 3) := oc_167 (a := 255) (b := 183) (by decide +kernel)
theorem dX4_settle_57 : decode cX4_settle 57 = .ok (.iload_n 2, 1) := oc_28 (by decide +kernel)
theorem dX4_settle_58 : decode cX4_settle 58 = .ok (.bipush 35, 2) := oc_16 (a := 35) (by decide +kernel)
theorem dX4_settle_60 : decode cX4_settle 60 = .ok (.if_icmp .ne 13, 3) := oc_160 (a := 0) (b := 13) (by decide +kernel)
theorem dX4_readBehindOne_0 : decode cX4_readBehindOne 0 = .ok (.aload_n 0, 1) := oc_42 (by decide +kernel)
theorem dX4_readBehindOne_1 : decode cX4_readBehindOne 1 = .ok (.getfield 12, 3) := oc_180 (a := 0) (b := 12) (by decide +kernel)
theorem dX4_readBehindOne_4 : decode cX4_readBehindOne 4 = .ok (.getfield 45, 3) := oc_180 (a := 0) (b := 45) (by decide +kernel)
theorem dX4_readBehindOne_7 : decode cX4_readBehindOne 7 = .ok (.istore_n 1, 1) := oc_60 (by decide +kernel)
theorem dX4_readBehindOne_8 : decode cX4_readBehindOne 8 = .ok (.aload_n 0, 1) := oc_42 (by decide +kernel)
theorem dX4_readBehindOne_9 : decode cX4_readBehindOne 9 = .ok (.iconst 0, 1) := oc_3 (by decide +kernel)
theorem dX4_readBehindOne_10 : decode cX4_readBehindOne 10 = .ok (.putfield 111, 3) := oc_181 (a := 0) (b := 111) (by decide +kernel)
theorem dX4_readBehindOne_13 : decode cX4_readBehindOne 13 = .ok (.iload_n 1, 1) := oc_27 (by decide +kernel)
theorem dX4_readBehindOne_14 : decode cX4_readBehindOne 14 = .ok (.bipush 25, 2) := oc_16 (a := 25) (by decide +kernel)
theorem dX4_readBehindOne_16 : decode cX4_readBehindOne 16 = .ok (.if_icmp .lt 24, 3) := oc_161 (a := 0) (b := 24) (by decide +kernel)
theorem dX4_readBehindOne_40 : decode cX4_readBehindOne 40 = .ok (.aload_n 0, 1) := oc_42 (by decide +kernel)
theorem dX4_readBehindOne_41 : decode cX4_readBehindOne 41 = .ok (.getfield 108, 3) := oc_180 (a := 0) (b := 108) (by decide +kernel)
theorem dX4_readBehindOne_44 : decode cX4_readBehindOne 44 = .ok (.ifCond .le 55, 3) := oc_158 (a := 0) (b := 55) (by decide +kernel)
theorem dX4_readBehindOne_99 : decode cX4_readBehindOne 99 = .ok (.aload_n 0, 1) := oc_42 (by decide +kernel)
theorem tw_762 : Cond.fieldLink RX4 115 "RingsUnder$Reader" "compared" "Z" ∈ wsL_law := sg_32 _ (List.mem_of_getElem? (i := 18) rfl)
theorem dX4_readBehindOne_100 : decode cX4_readBehindOne 100 = .ok (.getfield 115, 3) := oc_180 (a := 0) (b := 115) (by decide +kernel)
theorem dX4_readBehindOne_103 : decode cX4_readBehindOne 103 = .ok (.ifCond .ne 35, 3) := oc_154 (a := 0) (b := 35) (by decide +kernel)
theorem dX4_readBehindOne_138 : decode cX4_readBehindOne 138 = .ok (.aload_n 0, 1) := oc_42 (by decide +kernel)
theorem dX4_readBehindOne_139 : decode cX4_readBehindOne 139 = .ok (.getfield 115, 3) := oc_180 (a := 0) (b := 115) (by decide +kernel)
theorem dX4_readBehindOne_142 : decode cX4_readBehindOne 142 = .ok (.ifCond .eq 40, 3) := oc_153 (a := 0) (b := 40) (by decide +kernel)
theorem dX4_readBehindOne_145 : decode cX4_readBehindOne 145 = .ok (.iload_n 1, 1) := oc_27 (by decide +kernel)
theorem dX4_readBehindOne_146 : decode cX4_readBehindOne 146 = .ok (.bipush 9, 2) := oc_16 (a := 9) (by decide +kernel)
theorem dX4_readBehindOne_148 : decode cX4_readBehindOne 148 = .ok (.if_icmp .eq 9, 3) := oc_159 (a := 0) (b := 9) (by decide +kernel)
theorem dX4_readBehindOne_157 : decode cX4_readBehindOne 157 = .ok (.aload_n 0, 1) := oc_42 (by decide +kernel)
theorem dX4_readBehindOne_158 : decode cX4_readBehindOne 158 = .ok (.iconst 0, 1) := oc_3 (by decide +kernel)
theorem dX4_readBehindOne_159 : decode cX4_readBehindOne 159 = .ok (.putfield 115, 3) := oc_181 (a := 0) (b := 115) (by decide +kernel)
theorem dX4_readBehindOne_162 : decode cX4_readBehindOne 162 = .ok (.aload_n 0, 1) := oc_42 (by decide +kernel)
theorem dX4_readBehindOne_163 : decode cX4_readBehindOne 163 = .ok (.iconst 1, 1) := oc_4 (by decide +kernel)
theorem dX4_readBehindOne_164 : decode cX4_readBehindOne 164 = .ok (.putfield 111, 3) := oc_181 (a := 0) (b := 111) (by decide +kernel)
theorem dX4_readBehindOne_167 : decode cX4_readBehindOne 167 = .ok (.aload_n 0, 1) := oc_42 (by decide +kernel)
theorem dX4_readBehindOne_168 : decode cX4_readBehindOne 168 = .ok (.iload_n 1, 1) := oc_27 (by decide +kernel)
theorem dX4_readBehindOne_169 : decode cX4_readBehindOne 169 = .ok (.invokestatic 134, 3) := oc_184 (a := 0) (b := 134) (by decide +kernel)
theorem tw_793 : Cond.methodLink RX4 137 yX4_settle ∈ wsL_law := sg_34 _ (List.mem_of_getElem? (i := 1) rfl)
theorem tw_794 : Cond.instanceMethod yX4_settle ∈ wsL_law := sg_34 _ (List.mem_of_getElem? (i := 2) rfl)
theorem tw_795 : Cond.selects RX4 yX4_settle yX4_settle ∈ wsL_law := sg_34 _ (List.mem_of_getElem? (i := 3) rfl)
theorem tw_796 : Cond.code yX4_settle cX4_settle 3 none ∈ wsL_law := sg_34 _ (List.mem_of_getElem? (i := 4) rfl)
theorem dX4_readBehindOne_172 : decode cX4_readBehindOne 172 = .ok (.invokevirtual 137, 3) := oc_182 (a := 0) (b := 137) (by decide +kernel)
theorem dX4_readBehindOne_175 : decode cX4_readBehindOne 175 = .ok (.aload_n 0, 1) := oc_42 (by decide +kernel)
theorem dX4_readBehindOne_176 : decode cX4_readBehindOne 176 = .ok (.iload_n 1, 1) := oc_27 (by decide +kernel)
theorem dX4_readBehindOne_177 : decode cX4_readBehindOne 177 = .ok (.invokevirtual 131, 3) := oc_182 (a := 0) (b := 131) (by decide +kernel)
theorem dX4_readBehindOne_180 : decode cX4_readBehindOne 180 = .ok (.iconst 1, 1) := oc_4 (by decide +kernel)
theorem dX4_readBehindOne_181 : decode cX4_readBehindOne 181 = .ok (.ireturn, 1) := oc_172 (by decide +kernel)
theorem dX4_readBehindOne_151 : decode cX4_readBehindOne 151 = .ok (.iload_n 1, 1) := oc_27 (by decide +kernel)
theorem dX4_readBehindOne_152 : decode cX4_readBehindOne 152 = .ok (.bipush 10, 2) := oc_16 (a := 10) (by decide +kernel)
theorem dX4_readBehindOne_154 : decode cX4_readBehindOne 154 = .ok (.if_icmp .ne 28, 3) := oc_160 (a := 0) (b := 28) (by decide +kernel)
theorem dX4_readBehindOne_182 : decode cX4_readBehindOne 182 = .ok (.aload_n 0, 1) := oc_42 (by decide +kernel)
theorem dX4_readBehindOne_183 : decode cX4_readBehindOne 183 = .ok (.getfield 115, 3) := oc_180 (a := 0) (b := 115) (by decide +kernel)
theorem dX4_readBehindOne_186 : decode cX4_readBehindOne 186 = .ok (.ifCond .eq 9, 3) := oc_153 (a := 0) (b := 9) (by decide +kernel)
theorem dX4_readBehindOne_189 : decode cX4_readBehindOne 189 = .ok (.iload_n 1, 1) := oc_27 (by decide +kernel)
theorem dX4_readBehindOne_190 : decode cX4_readBehindOne 190 = .ok (.bipush 32, 2) := oc_16 (a := 32) (by decide +kernel)
theorem dX4_readBehindOne_192 : decode cX4_readBehindOne 192 = .ok (.if_icmp .eq 8, 3) := oc_159 (a := 0) (b := 8) (by decide +kernel)
theorem dX4_readBehindOne_195 : decode cX4_readBehindOne 195 = .ok (.aload_n 0, 1) := oc_42 (by decide +kernel)
theorem dX4_readBehindOne_196 : decode cX4_readBehindOne 196 = .ok (.iconst 1, 1) := oc_4 (by decide +kernel)
theorem dX4_readBehindOne_197 : decode cX4_readBehindOne 197 = .ok (.invokevirtual 57, 3) := oc_182 (a := 0) (b := 57) (by decide +kernel)
theorem dX4_readBehindOne_200 : decode cX4_readBehindOne 200 = .ok (.aload_n 0, 1) := oc_42 (by decide +kernel)
theorem dX4_readBehindOne_201 : decode cX4_readBehindOne 201 = .ok (.iconst 1, 1) := oc_4 (by decide +kernel)
theorem dX4_readBehindOne_202 : decode cX4_readBehindOne 202 = .ok (.invokevirtual 137, 3) := oc_182 (a := 0) (b := 137) (by decide +kernel)
theorem dX4_readBehindOne_205 : decode cX4_readBehindOne 205 = .ok (.aload_n 0, 1) := oc_42 (by decide +kernel)
theorem dX4_readBehindOne_206 : decode cX4_readBehindOne 206 = .ok (.iconst 1, 1) := oc_4 (by decide +kernel)
theorem tw_763 : Cond.fieldLink RX4 118 "RingsUnder$Reader" "closed" "Z" ∈ wsL_law := sg_32 _ (List.mem_of_getElem? (i := 19) rfl)
theorem dX4_readBehindOne_207 : decode cX4_readBehindOne 207 = .ok (.putfield 118, 3) := oc_181 (a := 0) (b := 118) (by decide +kernel)
theorem dX4_readBehindOne_210 : decode cX4_readBehindOne 210 = .ok (.iconst 0, 1) := oc_3 (by decide +kernel)
theorem dX4_readBehindOne_211 : decode cX4_readBehindOne 211 = .ok (.ireturn, 1) := oc_172 (by decide +kernel)
theorem dX4_readBehindOne_106 : decode cX4_readBehindOne 106 = .ok (.iload_n 1, 1) := oc_27 (by decide +kernel)
theorem dX4_readBehindOne_107 : decode cX4_readBehindOne 107 = .ok (.bipush 19, 2) := oc_16 (a := 19) (by decide +kernel)
theorem dX4_readBehindOne_109 : decode cX4_readBehindOne 109 = .ok (.if_icmp .lt 29, 3) := oc_161 (a := 0) (b := 29) (by decide +kernel)
theorem dX4_readBehindOne_112 : decode cX4_readBehindOne 112 = .ok (.iload_n 1, 1) := oc_27 (by decide +kernel)
theorem dX4_readBehindOne_113 : decode cX4_readBehindOne 113 = .ok (.bipush 24, 2) := oc_16 (a := 24) (by decide +kernel)
theorem dX4_readBehindOne_115 : decode cX4_readBehindOne 115 = .ok (.if_icmp .gt 23, 3) := oc_163 (a := 0) (b := 23) (by decide +kernel)
theorem dX4_readBehindOne_118 : decode cX4_readBehindOne 118 = .ok (.aload_n 0, 1) := oc_42 (by decide +kernel)
theorem dX4_readBehindOne_119 : decode cX4_readBehindOne 119 = .ok (.iconst 1, 1) := oc_4 (by decide +kernel)
theorem dX4_readBehindOne_120 : decode cX4_readBehindOne 120 = .ok (.putfield 115, 3) := oc_181 (a := 0) (b := 115) (by decide +kernel)
theorem dX4_readBehindOne_123 : decode cX4_readBehindOne 123 = .ok (.aload_n 0, 1) := oc_42 (by decide +kernel)
theorem dX4_readBehindOne_124 : decode cX4_readBehindOne 124 = .ok (.iload_n 1, 1) := oc_27 (by decide +kernel)
theorem dX4_readBehindOne_125 : decode cX4_readBehindOne 125 = .ok (.invokestatic 134, 3) := oc_184 (a := 0) (b := 134) (by decide +kernel)
theorem dX4_readBehindOne_128 : decode cX4_readBehindOne 128 = .ok (.invokevirtual 137, 3) := oc_182 (a := 0) (b := 137) (by decide +kernel)
theorem dX4_readBehindOne_131 : decode cX4_readBehindOne 131 = .ok (.aload_n 0, 1) := oc_42 (by decide +kernel)
theorem dX4_readBehindOne_132 : decode cX4_readBehindOne 132 = .ok (.iload_n 1, 1) := oc_27 (by decide +kernel)
theorem dX4_readBehindOne_133 : decode cX4_readBehindOne 133 = .ok (.invokevirtual 131, 3) := oc_182 (a := 0) (b := 131) (by decide +kernel)
theorem dX4_readBehindOne_136 : decode cX4_readBehindOne 136 = .ok (.iconst 1, 1) := oc_4 (by decide +kernel)
theorem dX4_readBehindOne_137 : decode cX4_readBehindOne 137 = .ok (.ireturn, 1) := oc_172 (by decide +kernel)
theorem dX4_readBehindOne_47 : decode cX4_readBehindOne 47 = .ok (.iload_n 1, 1) := oc_27 (by decide +kernel)
theorem dX4_readBehindOne_48 : decode cX4_readBehindOne 48 = .ok (.bipush 30, 2) := oc_16 (a := 30) (by decide +kernel)
theorem dX4_readBehindOne_50 : decode cX4_readBehindOne 50 = .ok (.if_icmp .eq 8, 3) := oc_159 (a := 0) (b := 8) (by decide +kernel)
theorem dX4_readBehindOne_53 : decode cX4_readBehindOne 53 = .ok (.aload_n 0, 1) := oc_42 (by decide +kernel)
theorem dX4_readBehindOne_54 : decode cX4_readBehindOne 54 = .ok (.iconst 1, 1) := oc_4 (by decide +kernel)
theorem dX4_readBehindOne_55 : decode cX4_readBehindOne 55 = .ok (.invokevirtual 57, 3) := oc_182 (a := 0) (b := 57) (by decide +kernel)
theorem dX4_readBehindOne_58 : decode cX4_readBehindOne 58 = .ok (.aload_n 0, 1) := oc_42 (by decide +kernel)
theorem dX4_readBehindOne_59 : decode cX4_readBehindOne 59 = .ok (.iconst 1, 1) := oc_4 (by decide +kernel)
theorem dX4_readBehindOne_60 : decode cX4_readBehindOne 60 = .ok (.invokevirtual 137, 3) := oc_182 (a := 0) (b := 137) (by decide +kernel)
theorem dX4_readBehindOne_63 : decode cX4_readBehindOne 63 = .ok (.aload_n 0, 1) := oc_42 (by decide +kernel)
theorem dX4_readBehindOne_64 : decode cX4_readBehindOne 64 = .ok (.dup, 1) := oc_89 (by decide +kernel)
theorem dX4_readBehindOne_65 : decode cX4_readBehindOne 65 = .ok (.getfield 108, 3) := oc_180 (a := 0) (b := 108) (by decide +kernel)
theorem dX4_readBehindOne_68 : decode cX4_readBehindOne 68 = .ok (.iconst 1, 1) := oc_4 (by decide +kernel)
theorem dX4_readBehindOne_69 : decode cX4_readBehindOne 69 = .ok (.isub, 1) := oc_100 (by decide +kernel)
theorem dX4_readBehindOne_70 : decode cX4_readBehindOne 70 = .ok (.putfield 108, 3) := oc_181 (a := 0) (b := 108) (by decide +kernel)
theorem dX4_readBehindOne_73 : decode cX4_readBehindOne 73 = .ok (.aload_n 0, 1) := oc_42 (by decide +kernel)
theorem dX4_readBehindOne_74 : decode cX4_readBehindOne 74 = .ok (.dup, 1) := oc_89 (by decide +kernel)
theorem dX4_readBehindOne_75 : decode cX4_readBehindOne 75 = .ok (.getfield 105, 3) := oc_180 (a := 0) (b := 105) (by decide +kernel)
theorem dX4_readBehindOne_78 : decode cX4_readBehindOne 78 = .ok (.iconst 1, 1) := oc_4 (by decide +kernel)
theorem dX4_readBehindOne_79 : decode cX4_readBehindOne 79 = .ok (.isub, 1) := oc_100 (by decide +kernel)
theorem dX4_readBehindOne_80 : decode cX4_readBehindOne 80 = .ok (.putfield 105, 3) := oc_181 (a := 0) (b := 105) (by decide +kernel)
theorem dX4_readBehindOne_83 : decode cX4_readBehindOne 83 = .ok (.aload_n 0, 1) := oc_42 (by decide +kernel)
theorem dX4_readBehindOne_84 : decode cX4_readBehindOne 84 = .ok (.iconst 0, 1) := oc_3 (by decide +kernel)
theorem dX4_readBehindOne_85 : decode cX4_readBehindOne 85 = .ok (.aload_n 0, 1) := oc_42 (by decide +kernel)
theorem dX4_readBehindOne_86 : decode cX4_readBehindOne 86 = .ok (.getfield 102, 3) := oc_180 (a := 0) (b := 102) (by decide +kernel)
theorem dX4_readBehindOne_89 : decode cX4_readBehindOne 89 = .ok (.iconst 1, 1) := oc_4 (by decide +kernel)
theorem dX4_readBehindOne_90 : decode cX4_readBehindOne 90 = .ok (.isub, 1) := oc_100 (by decide +kernel)
theorem tw_789 : Cond.methodLink RX4 140 Lib.Math.max.name ∈ wsL_law := sg_33 _ (List.mem_of_getElem? (i := 21) rfl)
theorem dX4_readBehindOne_91 : decode cX4_readBehindOne 91 = .ok (.invokestatic 140, 3) := oc_184 (a := 0) (b := 140) (by decide +kernel)
theorem dX4_readBehindOne_94 : decode cX4_readBehindOne 94 = .ok (.putfield 102, 3) := oc_181 (a := 0) (b := 102) (by decide +kernel)
theorem dX4_readBehindOne_97 : decode cX4_readBehindOne 97 = .ok (.iconst 0, 1) := oc_3 (by decide +kernel)
theorem dX4_readBehindOne_98 : decode cX4_readBehindOne 98 = .ok (.ireturn, 1) := oc_172 (by decide +kernel)
theorem dX4_readBehindOne_19 : decode cX4_readBehindOne 19 = .ok (.iload_n 1, 1) := oc_27 (by decide +kernel)
theorem dX4_readBehindOne_20 : decode cX4_readBehindOne 20 = .ok (.bipush 28, 2) := oc_16 (a := 28) (by decide +kernel)
theorem dX4_readBehindOne_22 : decode cX4_readBehindOne 22 = .ok (.if_icmp .gt 18, 3) := oc_163 (a := 0) (b := 18) (by decide +kernel)
theorem dX4_readBehindOne_25 : decode cX4_readBehindOne 25 = .ok (.aload_n 0, 1) := oc_42 (by decide +kernel)
theorem dX4_readBehindOne_26 : decode cX4_readBehindOne 26 = .ok (.iload_n 1, 1) := oc_27 (by decide +kernel)
theorem dX4_readBehindOne_27 : decode cX4_readBehindOne 27 = .ok (.invokestatic 134, 3) := oc_184 (a := 0) (b := 134) (by decide +kernel)
theorem dX4_readBehindOne_30 : decode cX4_readBehindOne 30 = .ok (.invokevirtual 137, 3) := oc_182 (a := 0) (b := 137) (by decide +kernel)
theorem dX4_readBehindOne_33 : decode cX4_readBehindOne 33 = .ok (.aload_n 0, 1) := oc_42 (by decide +kernel)
theorem dX4_readBehindOne_34 : decode cX4_readBehindOne 34 = .ok (.iload_n 1, 1) := oc_27 (by decide +kernel)
theorem dX4_readBehindOne_35 : decode cX4_readBehindOne 35 = .ok (.invokevirtual 131, 3) := oc_182 (a := 0) (b := 131) (by decide +kernel)
theorem dX4_readBehindOne_38 : decode cX4_readBehindOne 38 = .ok (.iconst 1, 1) := oc_4 (by decide +kernel)
theorem dX4_readBehindOne_39 : decode cX4_readBehindOne 39 = .ok (.ireturn, 1) := oc_172 (by decide +kernel)
theorem dX4_readEither_0 : decode cX4_readEither 0 = .ok (.aload_n 0, 1) := oc_42 (by decide +kernel)
theorem dX4_readEither_1 : decode cX4_readEither 1 = .ok (.iconst 0, 1) := oc_3 (by decide +kernel)
theorem dX4_readEither_2 : decode cX4_readEither 2 = .ok (.putfield 102, 3) := oc_181 (a := 0) (b := 102) (by decide +kernel)
theorem dX4_readEither_5 : decode cX4_readEither 5 = .ok (.aload_n 0, 1) := oc_42 (by decide +kernel)
theorem dX4_readEither_6 : decode cX4_readEither 6 = .ok (.iconst 0, 1) := oc_3 (by decide +kernel)
theorem dX4_readEither_7 : decode cX4_readEither 7 = .ok (.putfield 105, 3) := oc_181 (a := 0) (b := 105) (by decide +kernel)
theorem dX4_readEither_10 : decode cX4_readEither 10 = .ok (.aload_n 0, 1) := oc_42 (by decide +kernel)
theorem dX4_readEither_11 : decode cX4_readEither 11 = .ok (.iconst 0, 1) := oc_3 (by decide +kernel)
theorem dX4_readEither_12 : decode cX4_readEither 12 = .ok (.putfield 108, 3) := oc_181 (a := 0) (b := 108) (by decide +kernel)
theorem dX4_readEither_15 : decode cX4_readEither 15 = .ok (.aload_n 0, 1) := oc_42 (by decide +kernel)
theorem dX4_readEither_16 : decode cX4_readEither 16 = .ok (.iconst 1, 1) := oc_4 (by decide +kernel)
theorem dX4_readEither_17 : decode cX4_readEither 17 = .ok (.putfield 111, 3) := oc_181 (a := 0) (b := 111) (by decide +kernel)
theorem dX4_readEither_20 : decode cX4_readEither 20 = .ok (.aload_n 0, 1) := oc_42 (by decide +kernel)
theorem dX4_readEither_21 : decode cX4_readEither 21 = .ok (.iconst 0, 1) := oc_3 (by decide +kernel)
theorem dX4_readEither_22 : decode cX4_readEither 22 = .ok (.putfield 115, 3) := oc_181 (a := 0) (b := 115) (by decide +kernel)
theorem dX4_readEither_25 : decode cX4_readEither 25 = .ok (.aload_n 0, 1) := oc_42 (by decide +kernel)
theorem dX4_readEither_26 : decode cX4_readEither 26 = .ok (.iconst 0, 1) := oc_3 (by decide +kernel)
theorem dX4_readEither_27 : decode cX4_readEither 27 = .ok (.putfield 118, 3) := oc_181 (a := 0) (b := 118) (by decide +kernel)
theorem dX4_readEither_30 : decode cX4_readEither 30 = .ok (.iconst 1, 1) := oc_4 (by decide +kernel)
theorem dX4_readEither_31 : decode cX4_readEither 31 = .ok (.istore_n 1, 1) := oc_60 (by decide +kernel)
theorem dX4_readEither_32 : decode cX4_readEither 32 = .ok (.iconst 0, 1) := oc_3 (by decide +kernel)
theorem dX4_readEither_33 : decode cX4_readEither 33 = .ok (.istore_n 2, 1) := oc_61 (by decide +kernel)
theorem dX4_readEither_34 : decode cX4_readEither 34 = .ok (.iload_n 2, 1) := oc_28 (by decide +kernel)
theorem dX4_readEither_35 : decode cX4_readEither 35 = .ok (.sipush 300, 3) := oc_17 (a := 1) (b := 44) (by decide +kernel)
theorem dX4_readEither_38 : decode cX4_readEither 38 = .ok (.if_icmp .gt 46, 3) := oc_163 (a := 0) (b := 46) (by decide +kernel)
theorem dX4_readEither_84 : decode cX4_readEither 84 = .ok (.return_, 1) := oc_177 (by decide +kernel)
theorem dX4_readEither_41 : decode cX4_readEither 41 = .ok (.aload_n 0, 1) := oc_42 (by decide +kernel)
theorem dX4_readEither_42 : decode cX4_readEither 42 = .ok (.getfield 18, 3) := oc_180 (a := 0) (b := 18) (by decide +kernel)
theorem dX4_readEither_45 : decode cX4_readEither 45 = .ok (.ifCond .ne 39, 3) := oc_154 (a := 0) (b := 39) (by decide +kernel)
theorem dX4_readEither_48 : decode cX4_readEither 48 = .ok (.aload_n 0, 1) := oc_42 (by decide +kernel)
theorem dX4_readEither_49 : decode cX4_readEither 49 = .ok (.getfield 118, 3) := oc_180 (a := 0) (b := 118) (by decide +kernel)
theorem dX4_readEither_52 : decode cX4_readEither 52 = .ok (.ifCond .ne 32, 3) := oc_154 (a := 0) (b := 32) (by decide +kernel)
theorem dX4_readEither_55 : decode cX4_readEither 55 = .ok (.aload_n 0, 1) := oc_42 (by decide +kernel)
theorem dX4_readEither_56 : decode cX4_readEither 56 = .ok (.getfield 12, 3) := oc_180 (a := 0) (b := 12) (by decide +kernel)
theorem tw_663 : Cond.methodLink RX4 42 yX6_advance ∈ wsL_law := sg_28 _ (List.mem_of_getElem? (i := 15) rfl)
theorem tw_664 : Cond.instanceMethod yX6_advance ∈ wsL_law := sg_28 _ (List.mem_of_getElem? (i := 16) rfl)
theorem tw_665 : Cond.selects RX6 yX6_advance yX6_advance ∈ wsL_law := sg_28 _ (List.mem_of_getElem? (i := 17) rfl)
theorem tw_666 : Cond.code yX6_advance cX6_advance 1 none ∈ wsL_law := sg_28 _ (List.mem_of_getElem? (i := 18) rfl)
theorem dX4_readEither_59 : decode cX4_readEither 59 = .ok (.invokevirtual 42, 3) := oc_182 (a := 0) (b := 42) (by decide +kernel)
theorem dX4_readEither_62 : decode cX4_readEither 62 = .ok (.iload_n 1, 1) := oc_27 (by decide +kernel)
theorem dX4_readEither_63 : decode cX4_readEither 63 = .ok (.ifCond .eq 10, 3) := oc_153 (a := 0) (b := 10) (by decide +kernel)
theorem dX4_readEither_73 : decode cX4_readEither 73 = .ok (.aload_n 0, 1) := oc_42 (by decide +kernel)
theorem tw_785 : Cond.methodLink RX4 125 yX4_readBehindOne ∈ wsL_law := sg_33 _ (List.mem_of_getElem? (i := 17) rfl)
theorem tw_786 : Cond.instanceMethod yX4_readBehindOne ∈ wsL_law := sg_33 _ (List.mem_of_getElem? (i := 18) rfl)
theorem tw_787 : Cond.selects RX4 yX4_readBehindOne yX4_readBehindOne ∈ wsL_law := sg_33 _ (List.mem_of_getElem? (i := 19) rfl)
theorem tw_788 : Cond.code yX4_readBehindOne cX4_readBehindOne 2 (some .boolean) ∈ wsL_law := sg_33 _ (List.mem_of_getElem? (i := 20) rfl)
theorem dX4_readEither_74 : decode cX4_readEither 74 = .ok (.invokevirtual 125, 3) := oc_182 (a := 0) (b := 125) (by decide +kernel)
theorem dX4_readEither_77 : decode cX4_readEither 77 = .ok (.istore_n 1, 1) := oc_60 (by decide +kernel)
theorem dX4_readEither_78 : decode cX4_readEither 78 = .ok (.iinc 2 1, 3) := oc_132 (b := 1) (by decide +kernel)
theorem dX4_readEither_81 : decode cX4_readEither 81 = .ok (.goto (-47), 3) := oc_167 (a := 255) (b := 209) (by decide +kernel)
theorem dX4_readEither_66 : decode cX4_readEither 66 = .ok (.aload_n 0, 1) := oc_42 (by decide +kernel)
theorem tw_764 : Cond.methodLink RX4 121 yX4_readOne ∈ wsL_law := sg_32 _ (List.mem_of_getElem? (i := 20) rfl)
theorem tw_765 : Cond.instanceMethod yX4_readOne ∈ wsL_law := sg_32 _ (List.mem_of_getElem? (i := 21) rfl)
theorem tw_766 : Cond.selects RX4 yX4_readOne yX4_readOne ∈ wsL_law := sg_32 _ (List.mem_of_getElem? (i := 22) rfl)
theorem tw_767 : Cond.code yX4_readOne cX4_readOne 2 (some .boolean) ∈ wsL_law := sg_32 _ (List.mem_of_getElem? (i := 23) rfl)
theorem dX4_readEither_67 : decode cX4_readEither 67 = .ok (.invokevirtual 121, 3) := oc_182 (a := 0) (b := 121) (by decide +kernel)
theorem dX4_readEither_70 : decode cX4_readEither 70 = .ok (.goto 7, 3) := oc_167 (a := 0) (b := 7) (by decide +kernel)
theorem dX4_mostOf_0 : decode cX4_mostOf 0 = .ok (.iload_n 0, 1) := oc_26 (by decide +kernel)
theorem dX4_mostOf_1 : decode cX4_mostOf 1 = .ok (.lookupswitch 34 #[(6, 27), (7, 30)], 27) := by decide +kernel
theorem dX4_mostOf_28 : decode cX4_mostOf 28 = .ok (.bipush 100, 2) := oc_16 (a := 100) (by decide +kernel)
theorem dX4_mostOf_30 : decode cX4_mostOf 30 = .ok (.ireturn, 1) := oc_172 (by decide +kernel)
theorem dX4_mostOf_31 : decode cX4_mostOf 31 = .ok (.sipush 599, 3) := oc_17 (a := 2) (b := 87) (by decide +kernel)
theorem dX4_mostOf_34 : decode cX4_mostOf 34 = .ok (.ireturn, 1) := oc_172 (by decide +kernel)
theorem dX4_mostOf_35 : decode cX4_mostOf 35 = .ok (.sipush 1000, 3) := oc_17 (a := 3) (b := 232) (by decide +kernel)
theorem dX4_mostOf_38 : decode cX4_mostOf 38 = .ok (.ireturn, 1) := oc_172 (by decide +kernel)
theorem dX4_expectSemicolon_0 : decode cX4_expectSemicolon 0 = .ok (.aload_n 0, 1) := oc_42 (by decide +kernel)
theorem dX4_expectSemicolon_1 : decode cX4_expectSemicolon 1 = .ok (.getfield 12, 3) := oc_180 (a := 0) (b := 12) (by decide +kernel)
theorem dX4_expectSemicolon_4 : decode cX4_expectSemicolon 4 = .ok (.getfield 45, 3) := oc_180 (a := 0) (b := 45) (by decide +kernel)
theorem dX4_expectSemicolon_7 : decode cX4_expectSemicolon 7 = .ok (.bipush 32, 2) := oc_16 (a := 32) (by decide +kernel)
theorem dX4_expectSemicolon_9 : decode cX4_expectSemicolon 9 = .ok (.if_icmp .eq 8, 3) := oc_159 (a := 0) (b := 8) (by decide +kernel)
theorem dX4_expectSemicolon_17 : decode cX4_expectSemicolon 17 = .ok (.return_, 1) := oc_177 (by decide +kernel)
theorem dX4_expectSemicolon_12 : decode cX4_expectSemicolon 12 = .ok (.aload_n 0, 1) := oc_42 (by decide +kernel)
theorem dX4_expectSemicolon_13 : decode cX4_expectSemicolon 13 = .ok (.iconst 1, 1) := oc_4 (by decide +kernel)
theorem dX4_expectSemicolon_14 : decode cX4_expectSemicolon 14 = .ok (.invokevirtual 57, 3) := oc_182 (a := 0) (b := 57) (by decide +kernel)
theorem dX4_readNumber_0 : decode cX4_readNumber 0 = .ok (.aload_n 0, 1) := oc_42 (by decide +kernel)
theorem dX4_readNumber_1 : decode cX4_readNumber 1 = .ok (.getfield 12, 3) := oc_180 (a := 0) (b := 12) (by decide +kernel)
theorem dX4_readNumber_4 : decode cX4_readNumber 4 = .ok (.invokevirtual 42, 3) := oc_182 (a := 0) (b := 42) (by decide +kernel)
theorem dX4_readNumber_7 : decode cX4_readNumber 7 = .ok (.aload_n 0, 1) := oc_42 (by decide +kernel)
theorem dX4_readNumber_8 : decode cX4_readNumber 8 = .ok (.getfield 12, 3) := oc_180 (a := 0) (b := 12) (by decide +kernel)
theorem dX4_readNumber_11 : decode cX4_readNumber 11 = .ok (.getfield 45, 3) := oc_180 (a := 0) (b := 45) (by decide +kernel)
theorem dX4_readNumber_14 : decode cX4_readNumber 14 = .ok (.bipush 18, 2) := oc_16 (a := 18) (by decide +kernel)
theorem dX4_readNumber_16 : decode cX4_readNumber 16 = .ok (.if_icmp .eq 11, 3) := oc_159 (a := 0) (b := 11) (by decide +kernel)
theorem dX4_readNumber_27 : decode cX4_readNumber 27 = .ok (.aload_n 0, 1) := oc_42 (by decide +kernel)
theorem dX4_readNumber_28 : decode cX4_readNumber 28 = .ok (.getfield 12, 3) := oc_180 (a := 0) (b := 12) (by decide +kernel)
theorem dX4_readNumber_31 : decode cX4_readNumber 31 = .ok (.getfield 86, 3) := oc_180 (a := 0) (b := 86) (by decide +kernel)
theorem dX4_readNumber_34 : decode cX4_readNumber 34 = .ok (.iload_n 1, 1) := oc_27 (by decide +kernel)
theorem dX4_readNumber_35 : decode cX4_readNumber 35 = .ok (.if_icmp .le 11, 3) := oc_164 (a := 0) (b := 11) (by decide +kernel)
theorem dX4_readNumber_46 : decode cX4_readNumber 46 = .ok (.aload_n 0, 1) := oc_42 (by decide +kernel)
theorem dX4_readNumber_47 : decode cX4_readNumber 47 = .ok (.aload_n 0, 1) := oc_42 (by decide +kernel)
theorem dX4_readNumber_48 : decode cX4_readNumber 48 = .ok (.getfield 12, 3) := oc_180 (a := 0) (b := 12) (by decide +kernel)
theorem dX4_readNumber_51 : decode cX4_readNumber 51 = .ok (.getfield 86, 3) := oc_180 (a := 0) (b := 86) (by decide +kernel)
theorem dX4_readNumber_54 : decode cX4_readNumber 54 = .ok (.invokevirtual 89, 3) := oc_182 (a := 0) (b := 89) (by decide +kernel)
theorem dX4_readNumber_57 : decode cX4_readNumber 57 = .ok (.aload_n 0, 1) := oc_42 (by decide +kernel)
theorem dX4_readNumber_58 : decode cX4_readNumber 58 = .ok (.getfield 12, 3) := oc_180 (a := 0) (b := 12) (by decide +kernel)
theorem dX4_readNumber_61 : decode cX4_readNumber 61 = .ok (.invokevirtual 42, 3) := oc_182 (a := 0) (b := 42) (by decide +kernel)
theorem dX4_readNumber_64 : decode cX4_readNumber 64 = .ok (.aload_n 0, 1) := oc_42 (by decide +kernel)
theorem tw_805 : Cond.methodLink RX4 92 yX4_expectSemicolon ∈ wsL_law := sg_34 _ (List.mem_of_getElem? (i := 13) rfl)
theorem tw_806 : Cond.instanceMethod yX4_expectSemicolon ∈ wsL_law := sg_34 _ (List.mem_of_getElem? (i := 14) rfl)
theorem tw_807 : Cond.selects RX4 yX4_expectSemicolon yX4_expectSemicolon ∈ wsL_law := sg_34 _ (List.mem_of_getElem? (i := 15) rfl)
theorem tw_808 : Cond.code yX4_expectSemicolon cX4_expectSemicolon 1 none ∈ wsL_law := sg_34 _ (List.mem_of_getElem? (i := 16) rfl)
theorem dX4_readNumber_65 : decode cX4_readNumber 65 = .ok (.invokevirtual 92, 3) := oc_182 (a := 0) (b := 92) (by decide +kernel)
theorem dX4_readNumber_68 : decode cX4_readNumber 68 = .ok (.return_, 1) := oc_177 (by decide +kernel)
theorem dX4_readNumber_38 : decode cX4_readNumber 38 = .ok (.aload_n 0, 1) := oc_42 (by decide +kernel)
theorem dX4_readNumber_39 : decode cX4_readNumber 39 = .ok (.iconst 2, 1) := oc_5 (by decide +kernel)
theorem dX4_readNumber_40 : decode cX4_readNumber 40 = .ok (.invokevirtual 57, 3) := oc_182 (a := 0) (b := 57) (by decide +kernel)
theorem dX4_readNumber_43 : decode cX4_readNumber 43 = .ok (.goto 25, 3) := oc_167 (a := 0) (b := 25) (by decide +kernel)
theorem dX4_readNumber_19 : decode cX4_readNumber 19 = .ok (.aload_n 0, 1) := oc_42 (by decide +kernel)
theorem dX4_readNumber_20 : decode cX4_readNumber 20 = .ok (.iconst 1, 1) := oc_4 (by decide +kernel)
theorem dX4_readNumber_21 : decode cX4_readNumber 21 = .ok (.invokevirtual 57, 3) := oc_182 (a := 0) (b := 57) (by decide +kernel)
theorem dX4_readNumber_24 : decode cX4_readNumber 24 = .ok (.goto 44, 3) := oc_167 (a := 0) (b := 44) (by decide +kernel)
theorem dX4_readKey_0 : decode cX4_readKey 0 = .ok (.aload_n 0, 1) := oc_42 (by decide +kernel)
theorem dX4_readKey_1 : decode cX4_readKey 1 = .ok (.getfield 12, 3) := oc_180 (a := 0) (b := 12) (by decide +kernel)
theorem dX4_readKey_4 : decode cX4_readKey 4 = .ok (.getfield 45, 3) := oc_180 (a := 0) (b := 45) (by decide +kernel)
theorem dX4_readKey_7 : decode cX4_readKey 7 = .ok (.bipush 26, 2) := oc_16 (a := 26) (by decide +kernel)
theorem dX4_readKey_9 : decode cX4_readKey 9 = .ok (.if_icmp .ne 7, 3) := oc_160 (a := 0) (b := 7) (by decide +kernel)
theorem dX4_readKey_16 : decode cX4_readKey 16 = .ok (.iconst 0, 1) := oc_3 (by decide +kernel)
theorem dX4_readKey_17 : decode cX4_readKey 17 = .ok (.istore_n 2, 1) := oc_61 (by decide +kernel)
theorem dX4_readKey_18 : decode cX4_readKey 18 = .ok (.iload_n 2, 1) := oc_28 (by decide +kernel)
theorem dX4_readKey_19 : decode cX4_readKey 19 = .ok (.ifCond .ne 24, 3) := oc_154 (a := 0) (b := 24) (by decide +kernel)
theorem dX4_readKey_22 : decode cX4_readKey 22 = .ok (.aload_n 0, 1) := oc_42 (by decide +kernel)
theorem dX4_readKey_23 : decode cX4_readKey 23 = .ok (.getfield 12, 3) := oc_180 (a := 0) (b := 12) (by decide +kernel)
theorem dX4_readKey_26 : decode cX4_readKey 26 = .ok (.getfield 45, 3) := oc_180 (a := 0) (b := 45) (by decide +kernel)
theorem dX4_readKey_29 : decode cX4_readKey 29 = .ok (.invokestatic 98, 3) := oc_184 (a := 0) (b := 98) (by decide +kernel)
theorem dX4_readKey_32 : decode cX4_readKey 32 = .ok (.ifCond .ne 11, 3) := oc_154 (a := 0) (b := 11) (by decide +kernel)
theorem dX4_readKey_43 : decode cX4_readKey 43 = .ok (.iload_n 1, 1) := oc_27 (by decide +kernel)
theorem dX4_readKey_44 : decode cX4_readKey 44 = .ok (.iconst 4, 1) := oc_7 (by decide +kernel)
theorem dX4_readKey_45 : decode cX4_readKey 45 = .ok (.if_icmp .lt 11, 3) := oc_161 (a := 0) (b := 11) (by decide +kernel)
theorem dX4_readKey_56 : decode cX4_readKey 56 = .ok (.iload_n 2, 1) := oc_28 (by decide +kernel)
theorem dX4_readKey_57 : decode cX4_readKey 57 = .ok (.ifCond .eq 28, 3) := oc_153 (a := 0) (b := 28) (by decide +kernel)
theorem dX4_readKey_85 : decode cX4_readKey 85 = .ok (.aload_n 0, 1) := oc_42 (by decide +kernel)
theorem dX4_readKey_86 : decode cX4_readKey 86 = .ok (.iload_n 2, 1) := oc_28 (by decide +kernel)
theorem dX4_readKey_87 : decode cX4_readKey 87 = .ok (.ifCond .eq 14, 3) := oc_153 (a := 0) (b := 14) (by decide +kernel)
theorem dX4_readKey_101 : decode cX4_readKey 101 = .ok (.aload_n 0, 1) := oc_42 (by decide +kernel)
theorem dX4_readKey_102 : decode cX4_readKey 102 = .ok (.getfield 12, 3) := oc_180 (a := 0) (b := 12) (by decide +kernel)
theorem dX4_readKey_105 : decode cX4_readKey 105 = .ok (.getfield 45, 3) := oc_180 (a := 0) (b := 45) (by decide +kernel)
theorem dX4_readKey_108 : decode cX4_readKey 108 = .ok (.invokevirtual 89, 3) := oc_182 (a := 0) (b := 89) (by decide +kernel)
theorem dX4_readKey_111 : decode cX4_readKey 111 = .ok (.return_, 1) := oc_177 (by decide +kernel)
theorem dX4_readKey_48 : decode cX4_readKey 48 = .ok (.aload_n 0, 1) := oc_42 (by decide +kernel)
theorem dX4_readKey_49 : decode cX4_readKey 49 = .ok (.iconst 5, 1) := oc_8 (by decide +kernel)
theorem dX4_readKey_50 : decode cX4_readKey 50 = .ok (.invokevirtual 57, 3) := oc_182 (a := 0) (b := 57) (by decide +kernel)
theorem dX4_readKey_53 : decode cX4_readKey 53 = .ok (.goto 32, 3) := oc_167 (a := 0) (b := 32) (by decide +kernel)
theorem dX4_readKey_35 : decode cX4_readKey 35 = .ok (.aload_n 0, 1) := oc_42 (by decide +kernel)
theorem dX4_readKey_36 : decode cX4_readKey 36 = .ok (.iconst 1, 1) := oc_4 (by decide +kernel)
theorem dX4_readKey_37 : decode cX4_readKey 37 = .ok (.invokevirtual 57, 3) := oc_182 (a := 0) (b := 57) (by decide +kernel)
theorem dX4_readKey_40 : decode cX4_readKey 40 = .ok (.goto 45, 3) := oc_167 (a := 0) (b := 45) (by decide +kernel)
theorem dX4_readKey_12 : decode cX4_readKey 12 = .ok (.iconst 1, 1) := oc_4 (by decide +kernel)
theorem dX4_readKey_13 : decode cX4_readKey 13 = .ok (.goto 4, 3) := oc_167 (a := 0) (b := 4) (by decide +kernel)
theorem dX4_readKey_60 : decode cX4_readKey 60 = .ok (.aload_n 0, 1) := oc_42 (by decide +kernel)
theorem dX4_readKey_61 : decode cX4_readKey 61 = .ok (.getfield 12, 3) := oc_180 (a := 0) (b := 12) (by decide +kernel)
theorem dX4_readKey_64 : decode cX4_readKey 64 = .ok (.invokevirtual 42, 3) := oc_182 (a := 0) (b := 42) (by decide +kernel)
theorem dX4_readKey_67 : decode cX4_readKey 67 = .ok (.aload_n 0, 1) := oc_42 (by decide +kernel)
theorem dX4_readKey_68 : decode cX4_readKey 68 = .ok (.getfield 12, 3) := oc_180 (a := 0) (b := 12) (by decide +kernel)
theorem dX4_readKey_71 : decode cX4_readKey 71 = .ok (.getfield 45, 3) := oc_180 (a := 0) (b := 45) (by decide +kernel)
theorem dX4_readKey_74 : decode cX4_readKey 74 = .ok (.invokestatic 98, 3) := oc_184 (a := 0) (b := 98) (by decide +kernel)
theorem dX4_readKey_77 : decode cX4_readKey 77 = .ok (.ifCond .ne 8, 3) := oc_154 (a := 0) (b := 8) (by decide +kernel)
theorem dX4_readKey_90 : decode cX4_readKey 90 = .ok (.aload_n 0, 1) := oc_42 (by decide +kernel)
theorem dX4_readKey_91 : decode cX4_readKey 91 = .ok (.getfield 12, 3) := oc_180 (a := 0) (b := 12) (by decide +kernel)
theorem dX4_readKey_94 : decode cX4_readKey 94 = .ok (.getfield 45, 3) := oc_180 (a := 0) (b := 45) (by decide +kernel)
theorem dX4_readKey_97 : decode cX4_readKey 97 = .ok (.ineg, 1) := oc_116 (by decide +kernel)
theorem dX4_readKey_98 : decode cX4_readKey 98 = .ok (.goto 10, 3) := oc_167 (a := 0) (b := 10) (by decide +kernel)
theorem dX4_readKey_80 : decode cX4_readKey 80 = .ok (.aload_n 0, 1) := oc_42 (by decide +kernel)
theorem dX4_readKey_81 : decode cX4_readKey 81 = .ok (.iconst 1, 1) := oc_4 (by decide +kernel)
theorem dX4_readKey_82 : decode cX4_readKey 82 = .ok (.invokevirtual 57, 3) := oc_182 (a := 0) (b := 57) (by decide +kernel)
theorem dX4_readKeys_0 : decode cX4_readKeys 0 = .ok (.iconst 0, 1) := oc_3 (by decide +kernel)
theorem dX4_readKeys_1 : decode cX4_readKeys 1 = .ok (.istore_n 1, 1) := oc_60 (by decide +kernel)
theorem dX4_readKeys_2 : decode cX4_readKeys 2 = .ok (.iconst 1, 1) := oc_4 (by decide +kernel)
theorem dX4_readKeys_3 : decode cX4_readKeys 3 = .ok (.istore_n 2, 1) := oc_61 (by decide +kernel)
theorem dX4_readKeys_4 : decode cX4_readKeys 4 = .ok (.iload_n 2, 1) := oc_28 (by decide +kernel)
theorem dX4_readKeys_5 : decode cX4_readKeys 5 = .ok (.ifCond .eq 65, 3) := oc_153 (a := 0) (b := 65) (by decide +kernel)
theorem dX4_readKeys_70 : decode cX4_readKeys 70 = .ok (.aload_n 0, 1) := oc_42 (by decide +kernel)
theorem dX4_readKeys_71 : decode cX4_readKeys 71 = .ok (.invokevirtual 92, 3) := oc_182 (a := 0) (b := 92) (by decide +kernel)
theorem dX4_readKeys_74 : decode cX4_readKeys 74 = .ok (.return_, 1) := oc_177 (by decide +kernel)
theorem dX4_readKeys_8 : decode cX4_readKeys 8 = .ok (.iload_n 1, 1) := oc_27 (by decide +kernel)
theorem dX4_readKeys_9 : decode cX4_readKeys 9 = .ok (.iconst 4, 1) := oc_7 (by decide +kernel)
theorem dX4_readKeys_10 : decode cX4_readKeys 10 = .ok (.if_icmp .gt 60, 3) := oc_163 (a := 0) (b := 60) (by decide +kernel)
theorem dX4_readKeys_13 : decode cX4_readKeys 13 = .ok (.aload_n 0, 1) := oc_42 (by decide +kernel)
theorem dX4_readKeys_14 : decode cX4_readKeys 14 = .ok (.getfield 18, 3) := oc_180 (a := 0) (b := 18) (by decide +kernel)
theorem dX4_readKeys_17 : decode cX4_readKeys 17 = .ok (.ifCond .ne 53, 3) := oc_154 (a := 0) (b := 53) (by decide +kernel)
theorem dX4_readKeys_20 : decode cX4_readKeys 20 = .ok (.aload_n 0, 1) := oc_42 (by decide +kernel)
theorem dX4_readKeys_21 : decode cX4_readKeys 21 = .ok (.getfield 12, 3) := oc_180 (a := 0) (b := 12) (by decide +kernel)
theorem dX4_readKeys_24 : decode cX4_readKeys 24 = .ok (.invokevirtual 42, 3) := oc_182 (a := 0) (b := 42) (by decide +kernel)
theorem dX4_readKeys_27 : decode cX4_readKeys 27 = .ok (.aload_n 0, 1) := oc_42 (by decide +kernel)
theorem dX4_readKeys_28 : decode cX4_readKeys 28 = .ok (.iload_n 1, 1) := oc_27 (by decide +kernel)
theorem tw_801 : Cond.methodLink RX4 95 yX4_readKey ∈ wsL_law := sg_34 _ (List.mem_of_getElem? (i := 9) rfl)
theorem tw_802 : Cond.instanceMethod yX4_readKey ∈ wsL_law := sg_34 _ (List.mem_of_getElem? (i := 10) rfl)
theorem tw_803 : Cond.selects RX4 yX4_readKey yX4_readKey ∈ wsL_law := sg_34 _ (List.mem_of_getElem? (i := 11) rfl)
theorem tw_804 : Cond.code yX4_readKey cX4_readKey 3 none ∈ wsL_law := sg_34 _ (List.mem_of_getElem? (i := 12) rfl)
theorem dX4_readKeys_29 : decode cX4_readKeys 29 = .ok (.invokevirtual 95, 3) := oc_182 (a := 0) (b := 95) (by decide +kernel)
theorem dX4_readKeys_32 : decode cX4_readKeys 32 = .ok (.iinc 1 1, 3) := oc_132 (b := 1) (by decide +kernel)
theorem dX4_readKeys_35 : decode cX4_readKeys 35 = .ok (.aload_n 0, 1) := oc_42 (by decide +kernel)
theorem dX4_readKeys_36 : decode cX4_readKeys 36 = .ok (.getfield 18, 3) := oc_180 (a := 0) (b := 18) (by decide +kernel)
theorem dX4_readKeys_39 : decode cX4_readKeys 39 = .ok (.ifCond .ne 10, 3) := oc_154 (a := 0) (b := 10) (by decide +kernel)
theorem dX4_readKeys_49 : decode cX4_readKeys 49 = .ok (.aload_n 0, 1) := oc_42 (by decide +kernel)
theorem dX4_readKeys_50 : decode cX4_readKeys 50 = .ok (.getfield 12, 3) := oc_180 (a := 0) (b := 12) (by decide +kernel)
theorem dX4_readKeys_53 : decode cX4_readKeys 53 = .ok (.getfield 45, 3) := oc_180 (a := 0) (b := 45) (by decide +kernel)
theorem dX4_readKeys_56 : decode cX4_readKeys 56 = .ok (.bipush 31, 2) := oc_16 (a := 31) (by decide +kernel)
theorem dX4_readKeys_58 : decode cX4_readKeys 58 = .ok (.if_icmp .ne 7, 3) := oc_160 (a := 0) (b := 7) (by decide +kernel)
theorem dX4_readKeys_65 : decode cX4_readKeys 65 = .ok (.iconst 0, 1) := oc_3 (by decide +kernel)
theorem dX4_readKeys_66 : decode cX4_readKeys 66 = .ok (.istore_n 2, 1) := oc_61 (by decide +kernel)
theorem dX4_readKeys_67 : decode cX4_readKeys 67 = .ok (.goto (-63), 3) := oc_167 (a := 255) (b := 193) (by decide +kernel)
theorem dX4_readKeys_61 : decode cX4_readKeys 61 = .ok (.iconst 1, 1) := oc_4 (by decide +kernel)
theorem dX4_readKeys_62 : decode cX4_readKeys 62 = .ok (.goto 4, 3) := oc_167 (a := 0) (b := 4) (by decide +kernel)
theorem dX4_readKeys_42 : decode cX4_readKeys 42 = .ok (.aload_n 0, 1) := oc_42 (by decide +kernel)
theorem dX4_readKeys_43 : decode cX4_readKeys 43 = .ok (.getfield 12, 3) := oc_180 (a := 0) (b := 12) (by decide +kernel)
theorem dX4_readKeys_46 : decode cX4_readKeys 46 = .ok (.invokevirtual 42, 3) := oc_182 (a := 0) (b := 42) (by decide +kernel)
theorem dX4_readClause_0 : decode cX4_readClause 0 = .ok (.aload_n 0, 1) := oc_42 (by decide +kernel)
theorem dX4_readClause_1 : decode cX4_readClause 1 = .ok (.getfield 12, 3) := oc_180 (a := 0) (b := 12) (by decide +kernel)
theorem dX4_readClause_4 : decode cX4_readClause 4 = .ok (.getfield 45, 3) := oc_180 (a := 0) (b := 45) (by decide +kernel)
theorem dX4_readClause_7 : decode cX4_readClause 7 = .ok (.istore_n 1, 1) := oc_60 (by decide +kernel)
theorem dX4_readClause_8 : decode cX4_readClause 8 = .ok (.iload_n 1, 1) := oc_27 (by decide +kernel)
theorem dX4_readClause_9 : decode cX4_readClause 9 = .ok (.bipush 8, 2) := oc_16 (a := 8) (by decide +kernel)
theorem dX4_readClause_11 : decode cX4_readClause 11 = .ok (.if_icmp .le 11, 3) := oc_164 (a := 0) (b := 11) (by decide +kernel)
theorem dX4_readClause_22 : decode cX4_readClause 22 = .ok (.iload_n 1, 1) := oc_27 (by decide +kernel)
theorem dX4_readClause_23 : decode cX4_readClause 23 = .ok (.iconst 4, 1) := oc_7 (by decide +kernel)
theorem dX4_readClause_24 : decode cX4_readClause 24 = .ok (.if_icmp .lt 23, 3) := oc_161 (a := 0) (b := 23) (by decide +kernel)
theorem dX4_readClause_47 : decode cX4_readClause 47 = .ok (.aload_n 0, 1) := oc_42 (by decide +kernel)
theorem dX4_readClause_48 : decode cX4_readClause 48 = .ok (.getfield 28, 3) := oc_180 (a := 0) (b := 28) (by decide +kernel)
theorem tw_745 : Cond.fieldLink RX4 65 "RingsUnder$Text" "clauses" "I" ∈ wsL_law := sg_32 _ (List.mem_of_getElem? (i := 1) rfl)
theorem dX4_readClause_51 : decode cX4_readClause 51 = .ok (.getfield 65, 3) := oc_180 (a := 0) (b := 65) (by decide +kernel)
theorem dX4_readClause_54 : decode cX4_readClause 54 = .ok (.bipush 20, 2) := oc_16 (a := 20) (by decide +kernel)
theorem dX4_readClause_56 : decode cX4_readClause 56 = .ok (.if_icmp .lt 11, 3) := oc_161 (a := 0) (b := 11) (by decide +kernel)
theorem dX4_readClause_67 : decode cX4_readClause 67 = .ok (.aload_n 0, 1) := oc_42 (by decide +kernel)
theorem dX4_readClause_68 : decode cX4_readClause 68 = .ok (.getfield 28, 3) := oc_180 (a := 0) (b := 28) (by decide +kernel)
theorem tw_746 : Cond.fieldLink RX4 68 "RingsUnder$Text" "sorts" "[I" ∈ wsL_law := sg_32 _ (List.mem_of_getElem? (i := 2) rfl)
theorem dX4_readClause_71 : decode cX4_readClause 71 = .ok (.getfield 68, 3) := oc_180 (a := 0) (b := 68) (by decide +kernel)
theorem dX4_readClause_74 : decode cX4_readClause 74 = .ok (.aload_n 0, 1) := oc_42 (by decide +kernel)
theorem dX4_readClause_75 : decode cX4_readClause 75 = .ok (.getfield 28, 3) := oc_180 (a := 0) (b := 28) (by decide +kernel)
theorem dX4_readClause_78 : decode cX4_readClause 78 = .ok (.getfield 65, 3) := oc_180 (a := 0) (b := 65) (by decide +kernel)
theorem dX4_readClause_81 : decode cX4_readClause 81 = .ok (.iload_n 1, 1) := oc_27 (by decide +kernel)
theorem dX4_readClause_82 : decode cX4_readClause 82 = .ok (.iastore, 1) := oc_79 (by decide +kernel)
theorem dX4_readClause_83 : decode cX4_readClause 83 = .ok (.aload_n 0, 1) := oc_42 (by decide +kernel)
theorem dX4_readClause_84 : decode cX4_readClause 84 = .ok (.getfield 28, 3) := oc_180 (a := 0) (b := 28) (by decide +kernel)
theorem dX4_readClause_87 : decode cX4_readClause 87 = .ok (.dup, 1) := oc_89 (by decide +kernel)
theorem dX4_readClause_88 : decode cX4_readClause 88 = .ok (.getfield 65, 3) := oc_180 (a := 0) (b := 65) (by decide +kernel)
theorem dX4_readClause_91 : decode cX4_readClause 91 = .ok (.iconst 1, 1) := oc_4 (by decide +kernel)
theorem dX4_readClause_92 : decode cX4_readClause 92 = .ok (.iadd, 1) := oc_96 (by decide +kernel)
theorem dX4_readClause_93 : decode cX4_readClause 93 = .ok (.putfield 65, 3) := oc_181 (a := 0) (b := 65) (by decide +kernel)
theorem dX4_readClause_96 : decode cX4_readClause 96 = .ok (.iload_n 1, 1) := oc_27 (by decide +kernel)
theorem dX4_readClause_97 : decode cX4_readClause 97 = .ok (.iconst 4, 1) := oc_7 (by decide +kernel)
theorem dX4_readClause_98 : decode cX4_readClause 98 = .ok (.if_icmp .ge 10, 3) := oc_162 (a := 0) (b := 10) (by decide +kernel)
theorem dX4_readClause_101 : decode cX4_readClause 101 = .ok (.aload_n 0, 1) := oc_42 (by decide +kernel)
theorem tw_754 : Cond.methodLink RX4 71 yX4_readEither ∈ wsL_law := sg_32 _ (List.mem_of_getElem? (i := 10) rfl)
theorem tw_755 : Cond.instanceMethod yX4_readEither ∈ wsL_law := sg_32 _ (List.mem_of_getElem? (i := 11) rfl)
theorem tw_756 : Cond.selects RX4 yX4_readEither yX4_readEither ∈ wsL_law := sg_32 _ (List.mem_of_getElem? (i := 12) rfl)
theorem tw_757 : Cond.code yX4_readEither cX4_readEither 3 none ∈ wsL_law := sg_32 _ (List.mem_of_getElem? (i := 13) rfl)
theorem dX4_readClause_102 : decode cX4_readClause 102 = .ok (.invokevirtual 71, 3) := oc_182 (a := 0) (b := 71) (by decide +kernel)
theorem dX4_readClause_105 : decode cX4_readClause 105 = .ok (.goto 23, 3) := oc_167 (a := 0) (b := 23) (by decide +kernel)
theorem dX4_readClause_128 : decode cX4_readClause 128 = .ok (.aload_n 0, 1) := oc_42 (by decide +kernel)
theorem dX4_readClause_129 : decode cX4_readClause 129 = .ok (.getfield 28, 3) := oc_180 (a := 0) (b := 28) (by decide +kernel)
theorem tw_747 : Cond.fieldLink RX4 83 "RingsUnder$Text" "from" "[I" ∈ wsL_law := sg_32 _ (List.mem_of_getElem? (i := 3) rfl)
theorem dX4_readClause_132 : decode cX4_readClause 132 = .ok (.getfield 83, 3) := oc_180 (a := 0) (b := 83) (by decide +kernel)
theorem dX4_readClause_135 : decode cX4_readClause 135 = .ok (.aload_n 0, 1) := oc_42 (by decide +kernel)
theorem dX4_readClause_136 : decode cX4_readClause 136 = .ok (.getfield 28, 3) := oc_180 (a := 0) (b := 28) (by decide +kernel)
theorem dX4_readClause_139 : decode cX4_readClause 139 = .ok (.getfield 65, 3) := oc_180 (a := 0) (b := 65) (by decide +kernel)
theorem dX4_readClause_142 : decode cX4_readClause 142 = .ok (.aload_n 0, 1) := oc_42 (by decide +kernel)
theorem dX4_readClause_143 : decode cX4_readClause 143 = .ok (.getfield 36, 3) := oc_180 (a := 0) (b := 36) (by decide +kernel)
theorem dX4_readClause_146 : decode cX4_readClause 146 = .ok (.iastore, 1) := oc_79 (by decide +kernel)
theorem dX4_readClause_147 : decode cX4_readClause 147 = .ok (.return_, 1) := oc_177 (by decide +kernel)
theorem dX4_readClause_59 : decode cX4_readClause 59 = .ok (.aload_n 0, 1) := oc_42 (by decide +kernel)
theorem dX4_readClause_60 : decode cX4_readClause 60 = .ok (.iconst 5, 1) := oc_8 (by decide +kernel)
theorem dX4_readClause_61 : decode cX4_readClause 61 = .ok (.invokevirtual 57, 3) := oc_182 (a := 0) (b := 57) (by decide +kernel)
theorem dX4_readClause_64 : decode cX4_readClause 64 = .ok (.goto 83, 3) := oc_167 (a := 0) (b := 83) (by decide +kernel)
theorem dX4_readClause_27 : decode cX4_readClause 27 = .ok (.aload_n 0, 1) := oc_42 (by decide +kernel)
theorem dX4_readClause_28 : decode cX4_readClause 28 = .ok (.getfield 28, 3) := oc_180 (a := 0) (b := 28) (by decide +kernel)
theorem dX4_readClause_31 : decode cX4_readClause 31 = .ok (.iload_n 1, 1) := oc_27 (by decide +kernel)
theorem tw_753 : Cond.methodLink RX4 61 yX8_firstOf ∈ wsL_law := sg_32 _ (List.mem_of_getElem? (i := 9) rfl)
theorem dX4_readClause_32 : decode cX4_readClause 32 = .ok (.invokevirtual 61, 3) := oc_182 (a := 0) (b := 61) (by decide +kernel)
theorem dX4_readClause_35 : decode cX4_readClause 35 = .ok (.iconst (-1), 1) := oc_2 (by decide +kernel)
theorem dX4_readClause_36 : decode cX4_readClause 36 = .ok (.if_icmp .eq 11, 3) := oc_159 (a := 0) (b := 11) (by decide +kernel)
theorem dX4_readClause_108 : decode cX4_readClause 108 = .ok (.iload_n 1, 1) := oc_27 (by decide +kernel)
theorem dX4_readClause_109 : decode cX4_readClause 109 = .ok (.iconst 5, 1) := oc_8 (by decide +kernel)
theorem dX4_readClause_110 : decode cX4_readClause 110 = .ok (.if_icmp .gt 10, 3) := oc_163 (a := 0) (b := 10) (by decide +kernel)
theorem dX4_readClause_120 : decode cX4_readClause 120 = .ok (.aload_n 0, 1) := oc_42 (by decide +kernel)
theorem dX4_readClause_121 : decode cX4_readClause 121 = .ok (.iload_n 1, 1) := oc_27 (by decide +kernel)
theorem tw_809 : Cond.methodLink RX4 77 yX4_mostOf ∈ wsL_law := sg_34 _ (List.mem_of_getElem? (i := 17) rfl)
theorem tw_810 : Cond.static yX4_mostOf ∈ wsL_law := sg_34 _ (List.mem_of_getElem? (i := 18) rfl)
theorem tw_811 : Cond.code yX4_mostOf cX4_mostOf 1 (some .int) ∈ wsL_law := sg_34 _ (List.mem_of_getElem? (i := 19) rfl)
theorem dX4_readClause_122 : decode cX4_readClause 122 = .ok (.invokestatic 77, 3) := oc_184 (a := 0) (b := 77) (by decide +kernel)
theorem tw_812 : Cond.methodLink RX4 80 yX4_readNumber ∈ wsL_law := sg_34 _ (List.mem_of_getElem? (i := 20) rfl)
theorem tw_813 : Cond.instanceMethod yX4_readNumber ∈ wsL_law := sg_34 _ (List.mem_of_getElem? (i := 21) rfl)
theorem tw_814 : Cond.selects RX4 yX4_readNumber yX4_readNumber ∈ wsL_law := sg_34 _ (List.mem_of_getElem? (i := 22) rfl)
theorem tw_815 : Cond.code yX4_readNumber cX4_readNumber 2 none ∈ wsL_law := sg_34 _ (List.mem_of_getElem? (i := 23) rfl)
theorem dX4_readClause_125 : decode cX4_readClause 125 = .ok (.invokevirtual 80, 3) := oc_182 (a := 0) (b := 80) (by decide +kernel)
theorem dX4_readClause_113 : decode cX4_readClause 113 = .ok (.aload_n 0, 1) := oc_42 (by decide +kernel)
theorem tw_797 : Cond.methodLink RX4 74 yX4_readKeys ∈ wsL_law := sg_34 _ (List.mem_of_getElem? (i := 5) rfl)
theorem tw_798 : Cond.instanceMethod yX4_readKeys ∈ wsL_law := sg_34 _ (List.mem_of_getElem? (i := 6) rfl)
theorem tw_799 : Cond.selects RX4 yX4_readKeys yX4_readKeys ∈ wsL_law := sg_34 _ (List.mem_of_getElem? (i := 7) rfl)
theorem tw_800 : Cond.code yX4_readKeys cX4_readKeys 3 none ∈ wsL_law := sg_34 _ (List.mem_of_getElem? (i := 8) rfl)
theorem dX4_readClause_114 : decode cX4_readClause 114 = .ok (.invokevirtual 74, 3) := oc_182 (a := 0) (b := 74) (by decide +kernel)
theorem dX4_readClause_117 : decode cX4_readClause 117 = .ok (.goto 11, 3) := oc_167 (a := 0) (b := 11) (by decide +kernel)
theorem dX4_readClause_39 : decode cX4_readClause 39 = .ok (.aload_n 0, 1) := oc_42 (by decide +kernel)
theorem dX4_readClause_40 : decode cX4_readClause 40 = .ok (.iconst 4, 1) := oc_7 (by decide +kernel)
theorem dX4_readClause_41 : decode cX4_readClause 41 = .ok (.invokevirtual 57, 3) := oc_182 (a := 0) (b := 57) (by decide +kernel)
theorem dX4_readClause_44 : decode cX4_readClause 44 = .ok (.goto 103, 3) := oc_167 (a := 0) (b := 103) (by decide +kernel)
theorem dX4_readClause_14 : decode cX4_readClause 14 = .ok (.aload_n 0, 1) := oc_42 (by decide +kernel)
theorem dX4_readClause_15 : decode cX4_readClause 15 = .ok (.iconst 1, 1) := oc_4 (by decide +kernel)
theorem dX4_readClause_16 : decode cX4_readClause 16 = .ok (.invokevirtual 57, 3) := oc_182 (a := 0) (b := 57) (by decide +kernel)
theorem dX4_readClause_19 : decode cX4_readClause 19 = .ok (.goto 128, 3) := oc_167 (a := 0) (b := 128) (by decide +kernel)
set_option maxRecDepth 100000 in
def g_X4_refuse (a0 : Int32) (I : Nat → Int32) (J : Nat → Int64) (ri : Nat → Nat → Int32) (rj : Nat → Nat → Int64) (rq : Nat → Nat → Option Nat) : vM := (ap1 (I 129) fun (y_1 : Int32) => (if (y_1) = (0 : Int32) then (ap1 (va_up I 129 a0) fun (I_9 : Nat → Int32) => (ap1 (I_9 195) fun (y_15 : Int32) => (ap1 (va_up I_9 130 (y_15)) fun (I_16 : Nat → Int32) => (I_16, J, ri, rj, rq)))) else (I, J, ri, rj, rq)))
set_option maxRecDepth 100000 in
theorem g_X4_refuse_e {a0 : Int32} {I : Nat → Int32} {J : Nat → Int64} {ri : Nat → Nat → Int32} {rj : Nat → Nat → Int64} {rq : Nat → Nat → Option Nat} : g_X4_refuse a0 I J ri rj rq = (ap1 (I 129) fun (y_1 : Int32) => (if (y_1) = (0 : Int32) then (ap1 (va_up I 129 a0) fun (I_9 : Nat → Int32) => (ap1 (I_9 195) fun (y_15 : Int32) => (ap1 (va_up I_9 130 (y_15)) fun (I_16 : Nat → Int32) => (I_16, J, ri, rj, rq)))) else (I, J, ri, rj, rq))) := rfl
set_option maxHeartbeats 4000000 in
set_option maxRecDepth 100000 in
theorem s_X4_refuse (l : Launch) (D : va_G) (t : pq_T) (σ : pq_S) (I : Nat → Nat → Int32) (J : Nat → Nat → Int64) (ri : Nat → Nat → Int32) (rj : Nat → Nat → Int64) (rq : Nat → Nat → Option Nat) (sz : Nat) (tg : Nat → Nat) (hSH : SH σ tg) (hG0 : GS tg σ I ri rq) (this : Nat) (a0 : Int32) (hL_this : this ∈ σ.1) (hK_this : σ.2.1 this = 4) (h_a0 : rg a0 1 5) : MetV l yX4_refuse (wa yX4_refuse cX4_refuse 2 none) ({ frames := 0, cells := 0, slots := 0, locals := 0 }) [.ref this, .int a0] D t σ (I, J, ri, rj, rq) sz 0 0 (fun (u : pq_S × pq_M) => ∃ I' : Nat → Nat → Int32, u = (σ, I', J, ri, rj, rq) ∧ GX [129] tg σ I ri rj I' ri rj rq ∧ ((I' 129 this).toInt ≠ 0) ∧ g_X4_refuse a0 (vI 4 σ this I) (vJ 4 σ this J) (vR 4 σ this ri) (vL 4 σ this rj) (vQ 4 σ this rq) = ((vI 4 σ this I'), (vJ 4 σ this J), (vR 4 σ this ri), (vL 4 σ this rj), (vQ 4 σ this rq)) ∧ FR 4 tg σ this (I, J, ri, rj, rq) (I', J, ri, rj, rq)) := by
  refine Met.ofW (cc := cX4_refuse) (maxL := 2) (ret := none) (by decide +kernel) rfl ?_
  intro p e s m args below meth c s₁ B hml hv
  obtain ⟨rfl, hsz, hP, hK, hD0, hN⟩ := hv
  have hx := B.exec
  have hb := B.bytes
  have hr := B.returns
  have hts := atoms_spec (ws := (wa yX4_refuse cX4_refuse 2 none)) B.pre
  have hown : s.vm.findClass RX4 = some m.cls := findClass_of_methodNamed B.named
  have hlocks := B.notSynchronized
  subst hsz
  have hD : va_D (pq_B t σ (I, J, ri, rj, rq) s.heap.size) (pq_P t σ (I, J, ri, rj, rq)) := hD0.self
  generalize hAe : pq_B t σ (I, J, ri, rj, rq) s.heap.size = A at hD ⊢
  have hA : ∀ q : Nat, s.heap.size ≤ q → A q := fun q h => by rw [← hAe]; exact Or.inr h
  have hS : va_S A s.heap s.heap [] := va_S.rf
  have hG : GX [129] tg σ I ri rj I ri rj rq := ⟨hG0, fun _ _ _ => rfl, fun _ _ _ _ _ => rfl, fun _ _ _ _ _ => rfl⟩
  have hl := lv_entry ([.ref this, .int a0]) (n := 2) (Nat.le_of_ble_eq_true rfl)
  rw [lg_entry_eq]
  generalize (lg_sl ([.ref this, .int a0]) ++ List.replicate (2 - (lg_sl ([.ref this, .int a0])).length) Slot.unset).toArray = ls at hl ⊢
  have hl : lv_has ls 2 [(0, .ref this), (1, .int a0)] := hl
  refine q_gen (fun Q hQ => ?_)
  have go : ∀ (H : Heap) (locs : List Loc) (ls : Array Slot), va_P D vwCl (pq_P t σ (I, J, ri, rj, rq)) H → va_D A (pq_P t σ (I, J, ri, rj, rq)) → va_S A s.heap H locs → lv_has ls 2 [(0, .ref this), (1, .int a0)] → W p l e ({ frames := 0, cells := 0, slots := 0, locals := 0 } : Room) s m (List.toArray ([.ref this, .int a0] : List Value)) below meth c H locs 0 0 Q (F0 m 0 ls []) := by
    intro H locs ls hP hD hS hl
    have hO_this : this = vo σ 4 this := rfl
    have hVT : VT 4 σ tg this := vt_4 hSH hL_this hK_this
    have hFr : FR 4 tg σ this (I, J, ri, rj, rq) (I, J, ri, rj, rq) := fr_rf
    obtain ⟨F, hF0⟩ : ∃ F, F = g_X4_refuse a0 (vI 4 σ this I) (vJ 4 σ this J) (vR 4 σ this ri) (vL 4 σ this rj) (vQ 4 σ this rq) := ⟨_, rfl⟩
    have hF := hF0.trans g_X4_refuse_e
    have uh_a0 := h_a0.1
    have vh_a0 := h_a0.2
    refine lv_aload_n hx hb dX4_refuse_0 rfl (lv_at hl 0 rfl) ?_
    refine pg_f (v := .int (I 129 this)) (C := RX4) (T := TX4) (N := 12) hx hb hts (tw_i inlX4) hown hK hP hL_this hK_this (by decide +kernel) rfl 1 (by decide +kernel) (hts _ (tw_c tw_155)) rfl dX4_refuse_1 ?_
    replace hF := hF.trans (ap_n (vI_e (f := 129) hO_this (by decide +kernel)))
    refine lv_if_ne (tgt := 23) hx hb dX4_refuse_4 (by decide +kernel) (fun c_2 => ?_) (fun c_2 => ?_)
    · replace hF := hF.trans (if_neg c_2)
      have tc_6 : (I 129 this).toInt ≠ 0 := fun q => c_2 (Int32.toInt_inj.mp q)
      subst hQ
      exact W.vret hx hb hr (fun t1 ht hW => ⟨⟨(σ, I, J, ri, rj, rq), rfl, ⟨I, rfl, hG, (by omega), (hF0.symm.trans hF), hFr⟩, by rw [ht]; exact hP, va_K.moved hW.alike hK, hD⟩, hS.F ht⟩) hS.2.2 dX4_refuse_23
    · replace hF := hF.trans (if_pos c_2)
      have tc_7 : (I 129 this).toInt = 0 := congrArg Int32.toInt c_2
      have h_8 : rg (I 129 this) 0 0 := rg_and (rg_full _) (rg_of_eq c_2 (rg_k (0 : Int32) 0 rfl)) (by decide +kernel)
      have uh_8 := h_8.1
      have vh_8 := h_8.2
      refine lv_aload_n hx hb dX4_refuse_7 rfl (lv_at hl 0 rfl) ?_
      refine lv_iload_n hx hb dX4_refuse_8 rfl (lv_at hl 1 rfl) ?_
      refine pp_i (v := a0) (ty := .int) (C := RX4) (T := TX4) (N := 12) hx hb hts (tw_i inlX4) tyX4 tyX4_ok nmX4 hown hK hP hD hS hL_this hK_this (by decide +kernel) rfl 1 129 (by decide +kernel) (hts _ (tw_c tw_155)) rfl (tyX4_ok 1 (by decide +kernel)) rfl rfl (Nat.le_of_ble_eq_true rfl) (ps_129 _ _ _ _ _) dX4_refuse_9 (fun I_9 H locs eI_9 hP hD hS => ?_)
      replace hFr := fr_I (f := 129) hFr hO_this (by decide +kernel) eI_9
      replace hF := hF.trans (ap_n (vI_st (f := 129) hO_this (by decide +kernel) eI_9))
      have hG := GX.wI hG 129 rfl eI_9 (rg_w h_a0 (by decide +kernel)) (by decide +kernel)
      have tt_10 : (I_9 132 this).toInt = (I 132 this).toInt := by rw [eI_9, pq_uf _ _ _ (by decide +kernel)]
      have tt_11 : (I_9 134 this).toInt = (I 134 this).toInt := by rw [eI_9, pq_uf _ _ _ (by decide +kernel)]
      have tt_12 : (I_9 129 this).toInt = (a0).toInt := by rw [eI_9, pq_us]
      refine lv_aload_n hx hb dX4_refuse_12 rfl (lv_at hl 0 rfl) ?_
      refine lv_aload_n hx hb dX4_refuse_13 rfl (lv_at hl 0 rfl) ?_
      obtain ⟨w_13, hR_w_13, hL_w_13, hK_w_13⟩ := sh_o hSH 128 (ci := 4) (kd := 6) rfl hL_this hK_this
      have hO_w_13 : w_13 = vo σ 6 this := vo_k (c := 4) hO_this hR_w_13
      refine pg_f (v := .ref w_13) (C := RX4) (T := TX4) (N := 12) hx hb hts (tw_i inlX4) hown hK hP hL_this hK_this (by decide +kernel) rfl 0 (by decide +kernel) (hts _ (tw_c tw_154)) (pq_hv rfl hR_w_13) dX4_refuse_14 ?_
      refine pg_f (v := .int (I_9 195 w_13)) (C := RX6) (T := TX6) (N := 6) hx hb hts (tw_i inlX6) hown hK hP hL_w_13 hK_w_13 (by decide +kernel) rfl 3 (by decide +kernel) (hts _ (tw_c tw_752)) rfl dX4_refuse_17 ?_
      have h_14 : rg (I_9 195 w_13) 0 300 := GX.rI hG 195 rfl
      have uh_14 := h_14.1
      have vh_14 := h_14.2
      replace hF := hF.trans (ap_n (vI_e (f := 195) hO_w_13 (by decide +kernel)))
      refine pp_i (v := (I_9 195 w_13)) (ty := .int) (C := RX4) (T := TX4) (N := 12) hx hb hts (tw_i inlX4) tyX4 tyX4_ok nmX4 hown hK hP hD hS hL_this hK_this (by decide +kernel) rfl 2 130 (by decide +kernel) (hts _ (tw_c tw_156)) rfl (tyX4_ok 2 (by decide +kernel)) rfl rfl (Nat.le_of_ble_eq_true rfl) (ps_130 _ _ _ _ _) dX4_refuse_20 (fun I_16 H locs eI_16 hP hD hS => ?_)
      replace hFr := fr_I (f := 130) hFr hO_this (by decide +kernel) eI_16
      replace hF := hF.trans (ap_n (vI_st (f := 130) hO_this (by decide +kernel) eI_16))
      have hG := GX.wI hG 130 rfl eI_16 (rg_w h_14 (by decide +kernel)) (by decide +kernel)
      have tt_17 : (I_16 132 this).toInt = (I_9 132 this).toInt := by rw [eI_16, pq_uf _ _ _ (by decide +kernel)]
      have tt_18 : (I_16 134 this).toInt = (I_9 134 this).toInt := by rw [eI_16, pq_uf _ _ _ (by decide +kernel)]
      have tt_19 : (I_16 129 this).toInt = (I_9 129 this).toInt := by rw [eI_16, pq_uf _ _ _ (by decide +kernel)]
      subst hQ
      exact W.vret hx hb hr (fun t1 ht hW => ⟨⟨(σ, I_16, J, ri, rj, rq), rfl, ⟨I_16, rfl, hG, (by omega), (hF0.symm.trans hF), hFr⟩, by rw [ht]; exact hP, va_K.moved hW.alike hK, hD⟩, hS.F ht⟩) hS.2.2 dX4_refuse_23
  exact go _ _ _ hP hD hS hl

set_option maxRecDepth 100000 in
def g_X4_emit (a0 : Int32) (I : Nat → Int32) (J : Nat → Int64) (ri : Nat → Nat → Int32) (rj : Nat → Nat → Int64) (rq : Nat → Nat → Option Nat) : vM := (ap1 (I 132) fun (y_2 : Int32) => (if (300 : Int32) ≤ (y_2) then (I, J, ri, rj, rq) else (ap1 (va_up ri 259 (upd (ri 259) ((y_2)).toNatClampNeg a0)) fun (r_14 : Nat → Nat → Int32) => (ap1 ((y_2) + (1 : Int32)) fun (x_15 : Int32) => (ap1 (va_up I 132 x_15) fun (I_17 : Nat → Int32) => (I_17, J, r_14, rj, rq))))))
set_option maxRecDepth 100000 in
theorem g_X4_emit_e {a0 : Int32} {I : Nat → Int32} {J : Nat → Int64} {ri : Nat → Nat → Int32} {rj : Nat → Nat → Int64} {rq : Nat → Nat → Option Nat} : g_X4_emit a0 I J ri rj rq = (ap1 (I 132) fun (y_2 : Int32) => (if (300 : Int32) ≤ (y_2) then (I, J, ri, rj, rq) else (ap1 (va_up ri 259 (upd (ri 259) ((y_2)).toNatClampNeg a0)) fun (r_14 : Nat → Nat → Int32) => (ap1 ((y_2) + (1 : Int32)) fun (x_15 : Int32) => (ap1 (va_up I 132 x_15) fun (I_17 : Nat → Int32) => (I_17, J, r_14, rj, rq)))))) := rfl
set_option maxHeartbeats 4000000 in
set_option maxRecDepth 100000 in
theorem s_X4_emit (l : Launch) (D : va_G) (t : pq_T) (σ : pq_S) (I : Nat → Nat → Int32) (J : Nat → Nat → Int64) (ri : Nat → Nat → Int32) (rj : Nat → Nat → Int64) (rq : Nat → Nat → Option Nat) (sz : Nat) (tg : Nat → Nat) (hSH : SH σ tg) (hG0 : GS tg σ I ri rq) (this : Nat) (a0 : Int32) (hL_this : this ∈ σ.1) (hK_this : σ.2.1 this = 4) : MetV l yX4_emit (wa yX4_emit cX4_emit 2 none) ({ frames := 0, cells := 0, slots := 0, locals := 0 }) [.ref this, .int a0] D t σ (I, J, ri, rj, rq) sz 0 0 (fun (u : pq_S × pq_M) => ∃ I' : Nat → Nat → Int32, ∃ ri' : Nat → Nat → Int32, u = (σ, I', J, ri', rj, rq) ∧ GX [132] tg σ I ri rj I' ri' rj rq ∧ ((I 132 this).toInt ≤ (I' 132 this).toInt ∧ (I' 132 this).toInt ≤ (I 132 this).toInt + 1) ∧ (∀ q, tg q = 258 → ri' q = ri q) ∧ g_X4_emit a0 (vI 4 σ this I) (vJ 4 σ this J) (vR 4 σ this ri) (vL 4 σ this rj) (vQ 4 σ this rq) = ((vI 4 σ this I'), (vJ 4 σ this J), (vR 4 σ this ri'), (vL 4 σ this rj), (vQ 4 σ this rq)) ∧ FR 4 tg σ this (I, J, ri, rj, rq) (I', J, ri', rj, rq)) := by
  refine Met.ofW (cc := cX4_emit) (maxL := 2) (ret := none) (by decide +kernel) rfl ?_
  intro p e s m args below meth c s₁ B hml hv
  obtain ⟨rfl, hsz, hP, hK, hD0, hN⟩ := hv
  have hx := B.exec
  have hb := B.bytes
  have hr := B.returns
  have hts := atoms_spec (ws := (wa yX4_emit cX4_emit 2 none)) B.pre
  have hown : s.vm.findClass RX4 = some m.cls := findClass_of_methodNamed B.named
  have hlocks := B.notSynchronized
  subst hsz
  have hD : va_D (pq_B t σ (I, J, ri, rj, rq) s.heap.size) (pq_P t σ (I, J, ri, rj, rq)) := hD0.self
  generalize hAe : pq_B t σ (I, J, ri, rj, rq) s.heap.size = A at hD ⊢
  have hA : ∀ q : Nat, s.heap.size ≤ q → A q := fun q h => by rw [← hAe]; exact Or.inr h
  have hS : va_S A s.heap s.heap [] := va_S.rf
  have hG : GX [132] tg σ I ri rj I ri rj rq := ⟨hG0, fun _ _ _ => rfl, fun _ _ _ _ _ => rfl, fun _ _ _ _ _ => rfl⟩
  have hl := lv_entry ([.ref this, .int a0]) (n := 2) (Nat.le_of_ble_eq_true rfl)
  rw [lg_entry_eq]
  generalize (lg_sl ([.ref this, .int a0]) ++ List.replicate (2 - (lg_sl ([.ref this, .int a0])).length) Slot.unset).toArray = ls at hl ⊢
  have hl : lv_has ls 2 [(0, .ref this), (1, .int a0)] := hl
  refine q_gen (fun Q hQ => ?_)
  have go : ∀ (H : Heap) (locs : List Loc) (ls : Array Slot), va_P D vwCl (pq_P t σ (I, J, ri, rj, rq)) H → va_D A (pq_P t σ (I, J, ri, rj, rq)) → va_S A s.heap H locs → lv_has ls 2 [(0, .ref this), (1, .int a0)] → W p l e ({ frames := 0, cells := 0, slots := 0, locals := 0 } : Room) s m (List.toArray ([.ref this, .int a0] : List Value)) below meth c H locs 0 0 Q (F0 m 0 ls []) := by
    intro H locs ls hP hD hS hl
    have hO_this : this = vo σ 4 this := rfl
    have hVT : VT 4 σ tg this := vt_4 hSH hL_this hK_this
    have hFr : FR 4 tg σ this (I, J, ri, rj, rq) (I, J, ri, rj, rq) := fr_rf
    obtain ⟨F, hF0⟩ : ∃ F, F = g_X4_emit a0 (vI 4 σ this I) (vJ 4 σ this J) (vR 4 σ this ri) (vL 4 σ this rj) (vQ 4 σ this rq) := ⟨_, rfl⟩
    have hF := hF0.trans g_X4_emit_e
    refine lv_aload_n hx hb dX4_emit_0 rfl (lv_at hl 0 rfl) ?_
    refine pg_f (v := .int (I 132 this)) (C := RX4) (T := TX4) (N := 12) hx hb hts (tw_i inlX4) hown hK hP hL_this hK_this (by decide +kernel) rfl 4 (by decide +kernel) (hts _ (tw_c tw_656)) rfl dX4_emit_1 ?_
    have h_1 : rg (I 132 this) 0 300 := GX.rI hG 132 rfl
    have uh_1 := h_1.1
    have vh_1 := h_1.2
    replace hF := hF.trans (ap_n (vI_e (f := 132) hO_this (by decide +kernel)))
    refine lv_sipush (v := 300) hx hb dX4_emit_4 (by decide +kernel) ?_
    refine lv_icmp_ge (tgt := 33) hx hb dX4_emit_7 (by decide +kernel) (fun c_3 => ?_) (fun c_3 => ?_)
    · replace hF := hF.trans (if_pos c_3)
      have tc_8 : 300 ≤ (I 132 this).toInt := Int32.le_iff_toInt_le.mp c_3
      have h_9 : rg (I 132 this) 300 300 := rg_le2 c_3 (rg_k (300 : Int32) 300 rfl) h_1 (by decide +kernel)
      have uh_9 := h_9.1
      have vh_9 := h_9.2
      subst hQ
      exact W.vret hx hb hr (fun t1 ht hW => ⟨⟨(σ, I, J, ri, rj, rq), rfl, ⟨I, ri, rfl, hG, (by omega), (fun _ _ => rfl), (hF0.symm.trans hF), hFr⟩, by rw [ht]; exact hP, va_K.moved hW.alike hK, hD⟩, hS.F ht⟩) hS.2.2 dX4_emit_33
    · replace hF := hF.trans (if_neg c_3)
      have tc_10 : (I 132 this).toInt < 300 := Int32.lt_iff_toInt_lt.mp (nle c_3)
      have h_11 : rg (I 132 this) 0 299 := rg_lt1 (nle c_3) h_1 (rg_k (300 : Int32) 300 rfl) (by decide +kernel)
      have uh_11 := h_11.1
      have vh_11 := h_11.2
      refine lv_aload_n hx hb dX4_emit_10 rfl (lv_at hl 0 rfl) ?_
      obtain ⟨w_12, hR_w_12, hL_w_12, hK_w_12⟩ := sh_o hSH 131 (ci := 4) (kd := 8) rfl hL_this hK_this
      have hO_w_12 : w_12 = vo σ 8 this := vo_k (c := 4) hO_this hR_w_12
      refine pg_f (v := .ref w_12) (C := RX4) (T := TX4) (N := 12) hx hb hts (tw_i inlX4) hown hK hP hL_this hK_this (by decide +kernel) rfl 3 (by decide +kernel) (hts _ (tw_c tw_160)) (pq_hv rfl hR_w_12) dX4_emit_11 ?_
      obtain ⟨w_13, hR_w_13, hL_w_13, hK_w_13, hN_w_13, hT_w_13⟩ := sh_a hSH 259 (ci := 8) (kd := 13) (len := 300) rfl (by decide +kernel) hL_w_12 hK_w_12
      have hO_w_13 : w_13 = vrow σ 259 this := vo_k (c := 8) hO_w_12 hR_w_13
      refine pg_f (v := .ref w_13) (C := RX8) (T := TX8) (N := 4) hx hb hts (tw_i inlX8) hown hK hP hL_w_12 hK_w_12 (by decide +kernel) rfl 3 (by decide +kernel) (hts _ (tw_c tw_773)) (pq_hv rfl hR_w_13) dX4_emit_14 ?_
      refine lv_aload_n hx hb dX4_emit_17 rfl (lv_at hl 0 rfl) ?_
      refine pg_f (v := .int (I 132 this)) (C := RX4) (T := TX4) (N := 12) hx hb hts (tw_i inlX4) hown hK hP hL_this hK_this (by decide +kernel) rfl 4 (by decide +kernel) (hts _ (tw_c tw_656)) rfl dX4_emit_18 ?_
      refine lv_iload_n hx hb dX4_emit_21 rfl (lv_at hl 1 rfl) ?_
      refine pt_i hx hb hK hP hD hS hL_w_13 hK_w_13 hN_w_13 (rg_in h_11 (by decide +kernel)) dX4_emit_22 (fun r_14 H locs er_14 hP hD hS => ?_)
      replace hFr := fr_R hFr hO_w_13 (by decide +kernel) er_14
      replace hF := hF.trans (ap_n (vR_st hVT hO_w_13 (by decide +kernel) er_14))
      have hG := GX.wR hG hSH hT_w_13 rfl er_14 (rg_w (rg_full _) (by decide +kernel)) (by decide +kernel)
      refine lv_aload_n hx hb dX4_emit_23 rfl (lv_at hl 0 rfl) ?_
      refine lv_dup hx hb dX4_emit_24 rfl ?_
      refine pg_f (v := .int (I 132 this)) (C := RX4) (T := TX4) (N := 12) hx hb hts (tw_i inlX4) hown hK hP hL_this hK_this (by decide +kernel) rfl 4 (by decide +kernel) (hts _ (tw_c tw_656)) rfl dX4_emit_25 ?_
      refine lv_iconst (v := 1) hx hb dX4_emit_28 (by decide +kernel) ?_
      refine lv_iadd hx hb dX4_emit_29 ?_
      refine lv_topi (fun x_15 ex_15 => ?_)
      replace hF := hF.trans (ap_n ex_15)
      have h_16 : rg x_15 1 300 := rg_of_eq ex_15 (rg_add h_11 (rg_k (1 : Int32) 1 rfl) (by decide +kernel))
      have uh_16 := h_16.1
      have vh_16 := h_16.2
      have tx_15 : (x_15).toInt = (I 132 this).toInt + 1 := by rw [ex_15]; exact i_add_rg (a2 := (I 132 this).toInt) (b2 := 1) rfl rfl h_11 (rg_k (1 : Int32) 1 rfl) (by decide +kernel)
      refine pp_i (v := x_15) (ty := .int) (C := RX4) (T := TX4) (N := 12) hx hb hts (tw_i inlX4) tyX4 tyX4_ok nmX4 hown hK hP hD hS hL_this hK_this (by decide +kernel) rfl 4 132 (by decide +kernel) (hts _ (tw_c tw_656)) rfl (tyX4_ok 4 (by decide +kernel)) rfl rfl (Nat.le_of_ble_eq_true rfl) (ps_132 _ _ _ _ _) dX4_emit_30 (fun I_17 H locs eI_17 hP hD hS => ?_)
      replace hFr := fr_I (f := 132) hFr hO_this (by decide +kernel) eI_17
      replace hF := hF.trans (ap_n (vI_st (f := 132) hO_this (by decide +kernel) eI_17))
      have hG := GX.wI hG 132 rfl eI_17 (rg_w h_16 (by decide +kernel)) (by decide +kernel)
      have tt_18 : (I_17 132 this).toInt = (x_15).toInt := by rw [eI_17, pq_us]
      have tt_19 : (I_17 134 this).toInt = (I 134 this).toInt := by rw [eI_17, pq_uf _ _ _ (by decide +kernel)]
      have tt_20 : (I_17 129 this).toInt = (I 129 this).toInt := by rw [eI_17, pq_uf _ _ _ (by decide +kernel)]
      subst hQ
      exact W.vret hx hb hr (fun t1 ht hW => ⟨⟨(σ, I_17, J, r_14, rj, rq), rfl, ⟨I_17, r_14, rfl, hG, (by omega), (ft_w (fun _ _ => rfl) er_14 hT_w_13 (by decide +kernel)), (hF0.symm.trans hF), hFr⟩, by rw [ht]; exact hP, va_K.moved hW.alike hK, hD⟩, hS.F ht⟩) hS.2.2 dX4_emit_33
  exact go _ _ _ hP hD hS hl

set_option maxRecDepth 100000 in
def g_X4_isName (a0 : Int32) : Int32 := (if a0 < (12 : Int32) then (0 : Int32) else (if (17 : Int32) < a0 then (0 : Int32) else (1 : Int32)))
set_option maxRecDepth 100000 in
theorem g_X4_isName_e {a0 : Int32} : g_X4_isName a0 = (if a0 < (12 : Int32) then (0 : Int32) else (if (17 : Int32) < a0 then (0 : Int32) else (1 : Int32))) := rfl
set_option maxHeartbeats 4000000 in
set_option maxRecDepth 100000 in
theorem s_X4_isName (l : Launch) (D : va_G) (t : pq_T) (σ : pq_S) (I : Nat → Nat → Int32) (J : Nat → Nat → Int64) (ri : Nat → Nat → Int32) (rj : Nat → Nat → Int64) (rq : Nat → Nat → Option Nat) (sz : Nat) (tg : Nat → Nat) (hSH : SH σ tg) (hG0 : GS tg σ I ri rq) (a0 : Int32) : MetI l yX4_isName (wa yX4_isName cX4_isName 1 (some .boolean)) ({ frames := 0, cells := 0, slots := 0, locals := 0 }) [.int a0] D t σ (I, J, ri, rj, rq) sz 0 0 (fun (r : Int32) (u : pq_S × pq_M) => u = (σ, I, J, ri, rj, rq) ∧ g_X4_isName a0 = r ∧ ((r = 1 ∧ rg a0 12 17) ∨ (r = 0 ∧ True))) := by
  refine Met.ofW (cc := cX4_isName) (maxL := 1) (ret := (some .boolean)) (by decide +kernel) rfl ?_
  intro p e s m args below meth c s₁ B hml hv
  obtain ⟨rfl, hsz, hP, hK, hD0, hN⟩ := hv
  have hx := B.exec
  have hb := B.bytes
  have hr := B.returns
  have hts := atoms_spec (ws := (wa yX4_isName cX4_isName 1 (some .boolean))) B.pre
  have hown : s.vm.findClass RX4 = some m.cls := findClass_of_methodNamed B.named
  have hlocks := B.notSynchronized
  subst hsz
  have hD : va_D (pq_B t σ (I, J, ri, rj, rq) s.heap.size) (pq_P t σ (I, J, ri, rj, rq)) := hD0.self
  generalize hAe : pq_B t σ (I, J, ri, rj, rq) s.heap.size = A at hD ⊢
  have hA : ∀ q : Nat, s.heap.size ≤ q → A q := fun q h => by rw [← hAe]; exact Or.inr h
  have hS : va_S A s.heap s.heap [] := va_S.rf
  have hG : GX [] tg σ I ri rj I ri rj rq := ⟨hG0, fun _ _ _ => rfl, fun _ _ _ _ _ => rfl, fun _ _ _ _ _ => rfl⟩
  have hl := lv_entry ([.int a0]) (n := 1) (Nat.le_of_ble_eq_true rfl)
  rw [lg_entry_eq]
  generalize (lg_sl ([.int a0]) ++ List.replicate (1 - (lg_sl ([.int a0])).length) Slot.unset).toArray = ls at hl ⊢
  have hl : lv_has ls 1 [(0, .int a0)] := hl
  refine q_gen (fun Q hQ => ?_)
  have go : ∀ (H : Heap) (locs : List Loc) (ls : Array Slot), va_P D vwCl (pq_P t σ (I, J, ri, rj, rq)) H → va_D A (pq_P t σ (I, J, ri, rj, rq)) → va_S A s.heap H locs → lv_has ls 1 [(0, .int a0)] → W p l e ({ frames := 0, cells := 0, slots := 0, locals := 0 } : Room) s m (List.toArray ([.int a0] : List Value)) below meth c H locs 0 0 Q (F0 m 0 ls []) := by
    intro H locs ls hP hD hS hl
    obtain ⟨F, hF0⟩ : ∃ F, F = g_X4_isName a0 := ⟨_, rfl⟩
    have hF := hF0.trans g_X4_isName_e
    refine lv_iload_n hx hb dX4_isName_0 rfl (lv_at hl 0 rfl) ?_
    refine lv_bipush (v := 12) hx hb dX4_isName_1 (by decide +kernel) ?_
    refine lv_icmp_lt (tgt := 16) hx hb dX4_isName_3 (by decide +kernel) (fun c_1 => ?_) (fun c_1 => ?_)
    · replace hF := hF.trans (if_pos c_1)
      have tc_6 : (a0).toInt < 12 := Int32.lt_iff_toInt_lt.mp c_1
      have h_7 : rg a0 (-2147483648) 11 := rg_lt1 c_1 (rg_full _) (rg_k (12 : Int32) 12 rfl) (by decide +kernel)
      have uh_7 := h_7.1
      have vh_7 := h_7.2
      refine lv_iconst (v := 0) hx hb dX4_isName_16 (by decide +kernel) ?_
      subst hQ
      exact W.zret (v := 0) hx hb hr (by decide +kernel) (fun t1 ht hW => ⟨⟨0, (σ, I, J, ri, rj, rq), rfl, ⟨rfl, (hF0.symm.trans hF), (Or.inr ⟨rfl, trivial⟩)⟩, by rw [ht]; exact hP, va_K.moved hW.alike hK, hD⟩, hS.F ht⟩) hS.2.2 dX4_isName_17
    · replace hF := hF.trans (if_neg c_1)
      have tc_8 : 12 ≤ (a0).toInt := Int32.le_iff_toInt_le.mp (nlt c_1)
      have h_9 : rg a0 12 2147483647 := rg_le2 (nlt c_1) (rg_k (12 : Int32) 12 rfl) (rg_full _) (by decide +kernel)
      have uh_9 := h_9.1
      have vh_9 := h_9.2
      refine lv_iload_n hx hb dX4_isName_6 rfl (lv_at hl 0 rfl) ?_
      refine lv_bipush (v := 17) hx hb dX4_isName_7 (by decide +kernel) ?_
      refine lv_icmp_gt (tgt := 16) hx hb dX4_isName_9 (by decide +kernel) (fun c_10 => ?_) (fun c_10 => ?_)
      · replace hF := hF.trans (if_pos c_10)
        have tc_15 : 17 < (a0).toInt := Int32.lt_iff_toInt_lt.mp c_10
        have h_16 : rg a0 18 2147483647 := rg_lt2 c_10 (rg_k (17 : Int32) 17 rfl) h_9 (by decide +kernel)
        have uh_16 := h_16.1
        have vh_16 := h_16.2
        refine lv_iconst (v := 0) hx hb dX4_isName_16 (by decide +kernel) ?_
        subst hQ
        exact W.zret (v := 0) hx hb hr (by decide +kernel) (fun t1 ht hW => ⟨⟨0, (σ, I, J, ri, rj, rq), rfl, ⟨rfl, (hF0.symm.trans hF), (Or.inr ⟨rfl, trivial⟩)⟩, by rw [ht]; exact hP, va_K.moved hW.alike hK, hD⟩, hS.F ht⟩) hS.2.2 dX4_isName_17
      · replace hF := hF.trans (if_neg c_10)
        have tc_17 : (a0).toInt ≤ 17 := Int32.le_iff_toInt_le.mp (nlt c_10)
        have h_18 : rg a0 12 17 := rg_le1 (nlt c_10) h_9 (rg_k (17 : Int32) 17 rfl) (by decide +kernel)
        have uh_18 := h_18.1
        have vh_18 := h_18.2
        refine lv_iconst (v := 1) hx hb dX4_isName_12 (by decide +kernel) ?_
        refine lv_goto (tgt := 17) hx hb dX4_isName_13 (by decide +kernel) ?_
        subst hQ
        exact W.zret (v := 1) hx hb hr (by decide +kernel) (fun t1 ht hW => ⟨⟨1, (σ, I, J, ri, rj, rq), rfl, ⟨rfl, (hF0.symm.trans hF), (Or.inl ⟨rfl, (rg_w h_18 (by decide +kernel))⟩)⟩, by rw [ht]; exact hP, va_K.moved hW.alike hK, hD⟩, hS.F ht⟩) hS.2.2 dX4_isName_17
  exact go _ _ _ hP hD hS hl

set_option maxRecDepth 100000 in
def g_X4_await (a0 : Int32) (I : Nat → Int32) (J : Nat → Int64) (ri : Nat → Nat → Int32) (rj : Nat → Nat → Int64) (rq : Nat → Nat → Option Nat) : vM := (ap1 (I 134) fun (y_2 : Int32) => (if (40 : Int32) ≤ (y_2) then (I, J, ri, rj, rq) else (ap1 (va_up ri 133 (upd (ri 133) ((y_2)).toNatClampNeg a0)) fun (r_13 : Nat → Nat → Int32) => (ap1 ((y_2) + (1 : Int32)) fun (x_14 : Int32) => (ap1 (va_up I 134 x_14) fun (I_16 : Nat → Int32) => (I_16, J, r_13, rj, rq))))))
set_option maxRecDepth 100000 in
theorem g_X4_await_e {a0 : Int32} {I : Nat → Int32} {J : Nat → Int64} {ri : Nat → Nat → Int32} {rj : Nat → Nat → Int64} {rq : Nat → Nat → Option Nat} : g_X4_await a0 I J ri rj rq = (ap1 (I 134) fun (y_2 : Int32) => (if (40 : Int32) ≤ (y_2) then (I, J, ri, rj, rq) else (ap1 (va_up ri 133 (upd (ri 133) ((y_2)).toNatClampNeg a0)) fun (r_13 : Nat → Nat → Int32) => (ap1 ((y_2) + (1 : Int32)) fun (x_14 : Int32) => (ap1 (va_up I 134 x_14) fun (I_16 : Nat → Int32) => (I_16, J, r_13, rj, rq)))))) := rfl
set_option maxHeartbeats 4000000 in
set_option maxRecDepth 100000 in
theorem s_X4_await (l : Launch) (D : va_G) (t : pq_T) (σ : pq_S) (I : Nat → Nat → Int32) (J : Nat → Nat → Int64) (ri : Nat → Nat → Int32) (rj : Nat → Nat → Int64) (rq : Nat → Nat → Option Nat) (sz : Nat) (tg : Nat → Nat) (hSH : SH σ tg) (hG0 : GS tg σ I ri rq) (this : Nat) (a0 : Int32) (hL_this : this ∈ σ.1) (hK_this : σ.2.1 this = 4) : MetV l yX4_await (wa yX4_await cX4_await 2 none) ({ frames := 0, cells := 0, slots := 0, locals := 0 }) [.ref this, .int a0] D t σ (I, J, ri, rj, rq) sz 0 0 (fun (u : pq_S × pq_M) => ∃ I' : Nat → Nat → Int32, ∃ ri' : Nat → Nat → Int32, u = (σ, I', J, ri', rj, rq) ∧ GX [134] tg σ I ri rj I' ri' rj rq ∧ ((I 134 this).toInt ≤ (I' 134 this).toInt ∧ (I' 134 this).toInt ≤ (I 134 this).toInt + 1) ∧ (∀ q, tg q = 258 → ri' q = ri q) ∧ g_X4_await a0 (vI 4 σ this I) (vJ 4 σ this J) (vR 4 σ this ri) (vL 4 σ this rj) (vQ 4 σ this rq) = ((vI 4 σ this I'), (vJ 4 σ this J), (vR 4 σ this ri'), (vL 4 σ this rj), (vQ 4 σ this rq)) ∧ FR 4 tg σ this (I, J, ri, rj, rq) (I', J, ri', rj, rq)) := by
  refine Met.ofW (cc := cX4_await) (maxL := 2) (ret := none) (by decide +kernel) rfl ?_
  intro p e s m args below meth c s₁ B hml hv
  obtain ⟨rfl, hsz, hP, hK, hD0, hN⟩ := hv
  have hx := B.exec
  have hb := B.bytes
  have hr := B.returns
  have hts := atoms_spec (ws := (wa yX4_await cX4_await 2 none)) B.pre
  have hown : s.vm.findClass RX4 = some m.cls := findClass_of_methodNamed B.named
  have hlocks := B.notSynchronized
  subst hsz
  have hD : va_D (pq_B t σ (I, J, ri, rj, rq) s.heap.size) (pq_P t σ (I, J, ri, rj, rq)) := hD0.self
  generalize hAe : pq_B t σ (I, J, ri, rj, rq) s.heap.size = A at hD ⊢
  have hA : ∀ q : Nat, s.heap.size ≤ q → A q := fun q h => by rw [← hAe]; exact Or.inr h
  have hS : va_S A s.heap s.heap [] := va_S.rf
  have hG : GX [134] tg σ I ri rj I ri rj rq := ⟨hG0, fun _ _ _ => rfl, fun _ _ _ _ _ => rfl, fun _ _ _ _ _ => rfl⟩
  have hl := lv_entry ([.ref this, .int a0]) (n := 2) (Nat.le_of_ble_eq_true rfl)
  rw [lg_entry_eq]
  generalize (lg_sl ([.ref this, .int a0]) ++ List.replicate (2 - (lg_sl ([.ref this, .int a0])).length) Slot.unset).toArray = ls at hl ⊢
  have hl : lv_has ls 2 [(0, .ref this), (1, .int a0)] := hl
  refine q_gen (fun Q hQ => ?_)
  have go : ∀ (H : Heap) (locs : List Loc) (ls : Array Slot), va_P D vwCl (pq_P t σ (I, J, ri, rj, rq)) H → va_D A (pq_P t σ (I, J, ri, rj, rq)) → va_S A s.heap H locs → lv_has ls 2 [(0, .ref this), (1, .int a0)] → W p l e ({ frames := 0, cells := 0, slots := 0, locals := 0 } : Room) s m (List.toArray ([.ref this, .int a0] : List Value)) below meth c H locs 0 0 Q (F0 m 0 ls []) := by
    intro H locs ls hP hD hS hl
    have hO_this : this = vo σ 4 this := rfl
    have hVT : VT 4 σ tg this := vt_4 hSH hL_this hK_this
    have hFr : FR 4 tg σ this (I, J, ri, rj, rq) (I, J, ri, rj, rq) := fr_rf
    obtain ⟨F, hF0⟩ : ∃ F, F = g_X4_await a0 (vI 4 σ this I) (vJ 4 σ this J) (vR 4 σ this ri) (vL 4 σ this rj) (vQ 4 σ this rq) := ⟨_, rfl⟩
    have hF := hF0.trans g_X4_await_e
    refine lv_aload_n hx hb dX4_await_0 rfl (lv_at hl 0 rfl) ?_
    refine pg_f (v := .int (I 134 this)) (C := RX4) (T := TX4) (N := 12) hx hb hts (tw_i inlX4) hown hK hP hL_this hK_this (by decide +kernel) rfl 6 (by decide +kernel) (hts _ (tw_c tw_758)) rfl dX4_await_1 ?_
    have h_1 : rg (I 134 this) 0 40 := GX.rI hG 134 rfl
    have uh_1 := h_1.1
    have vh_1 := h_1.2
    replace hF := hF.trans (ap_n (vI_e (f := 134) hO_this (by decide +kernel)))
    refine lv_aload_n hx hb dX4_await_4 rfl (lv_at hl 0 rfl) ?_
    obtain ⟨w_3, hR_w_3, hL_w_3, hK_w_3, hN_w_3, hT_w_3⟩ := sh_a hSH 133 (ci := 4) (kd := 13) (len := 40) rfl (by decide +kernel) hL_this hK_this
    have hO_w_3 : w_3 = vrow σ 133 this := vo_k (c := 4) hO_this hR_w_3
    refine pg_f (v := .ref w_3) (C := RX4) (T := TX4) (N := 12) hx hb hts (tw_i inlX4) hown hK hP hL_this hK_this (by decide +kernel) rfl 5 (by decide +kernel) (hts _ (tw_c tw_161)) (pq_hv rfl hR_w_3) dX4_await_5 ?_
    refine pn_i (v := 40) hx hb hK hP hL_w_3 hK_w_3 hN_w_3 (by decide +kernel) dX4_await_8 ?_
    refine lv_icmp_ge (tgt := 32) hx hb dX4_await_9 (by decide +kernel) (fun c_4 => ?_) (fun c_4 => ?_)
    · replace hF := hF.trans (if_pos c_4)
      have tc_9 : 40 ≤ (I 134 this).toInt := Int32.le_iff_toInt_le.mp c_4
      have h_10 : rg (I 134 this) 40 40 := rg_le2 c_4 (rg_k (40 : Int32) 40 rfl) h_1 (by decide +kernel)
      have uh_10 := h_10.1
      have vh_10 := h_10.2
      subst hQ
      exact W.vret hx hb hr (fun t1 ht hW => ⟨⟨(σ, I, J, ri, rj, rq), rfl, ⟨I, ri, rfl, hG, (by omega), (fun _ _ => rfl), (hF0.symm.trans hF), hFr⟩, by rw [ht]; exact hP, va_K.moved hW.alike hK, hD⟩, hS.F ht⟩) hS.2.2 dX4_await_32
    · replace hF := hF.trans (if_neg c_4)
      have tc_11 : (I 134 this).toInt < 40 := Int32.lt_iff_toInt_lt.mp (nle c_4)
      have h_12 : rg (I 134 this) 0 39 := rg_lt1 (nle c_4) h_1 (rg_k (40 : Int32) 40 rfl) (by decide +kernel)
      have uh_12 := h_12.1
      have vh_12 := h_12.2
      refine lv_aload_n hx hb dX4_await_12 rfl (lv_at hl 0 rfl) ?_
      refine pg_f (v := .ref w_3) (C := RX4) (T := TX4) (N := 12) hx hb hts (tw_i inlX4) hown hK hP hL_this hK_this (by decide +kernel) rfl 5 (by decide +kernel) (hts _ (tw_c tw_161)) (pq_hv rfl hR_w_3) dX4_await_13 ?_
      refine lv_aload_n hx hb dX4_await_16 rfl (lv_at hl 0 rfl) ?_
      refine pg_f (v := .int (I 134 this)) (C := RX4) (T := TX4) (N := 12) hx hb hts (tw_i inlX4) hown hK hP hL_this hK_this (by decide +kernel) rfl 6 (by decide +kernel) (hts _ (tw_c tw_758)) rfl dX4_await_17 ?_
      refine lv_iload_n hx hb dX4_await_20 rfl (lv_at hl 1 rfl) ?_
      refine pt_i hx hb hK hP hD hS hL_w_3 hK_w_3 hN_w_3 (rg_in h_12 (by decide +kernel)) dX4_await_21 (fun r_13 H locs er_13 hP hD hS => ?_)
      replace hFr := fr_R hFr hO_w_3 (by decide +kernel) er_13
      replace hF := hF.trans (ap_n (vR_st hVT hO_w_3 (by decide +kernel) er_13))
      have hG := GX.wR hG hSH hT_w_3 rfl er_13 (rg_w (rg_full _) (by decide +kernel)) (by decide +kernel)
      refine lv_aload_n hx hb dX4_await_22 rfl (lv_at hl 0 rfl) ?_
      refine lv_dup hx hb dX4_await_23 rfl ?_
      refine pg_f (v := .int (I 134 this)) (C := RX4) (T := TX4) (N := 12) hx hb hts (tw_i inlX4) hown hK hP hL_this hK_this (by decide +kernel) rfl 6 (by decide +kernel) (hts _ (tw_c tw_758)) rfl dX4_await_24 ?_
      refine lv_iconst (v := 1) hx hb dX4_await_27 (by decide +kernel) ?_
      refine lv_iadd hx hb dX4_await_28 ?_
      refine lv_topi (fun x_14 ex_14 => ?_)
      replace hF := hF.trans (ap_n ex_14)
      have h_15 : rg x_14 1 40 := rg_of_eq ex_14 (rg_add h_12 (rg_k (1 : Int32) 1 rfl) (by decide +kernel))
      have uh_15 := h_15.1
      have vh_15 := h_15.2
      have tx_14 : (x_14).toInt = (I 134 this).toInt + 1 := by rw [ex_14]; exact i_add_rg (a2 := (I 134 this).toInt) (b2 := 1) rfl rfl h_12 (rg_k (1 : Int32) 1 rfl) (by decide +kernel)
      refine pp_i (v := x_14) (ty := .int) (C := RX4) (T := TX4) (N := 12) hx hb hts (tw_i inlX4) tyX4 tyX4_ok nmX4 hown hK hP hD hS hL_this hK_this (by decide +kernel) rfl 6 134 (by decide +kernel) (hts _ (tw_c tw_758)) rfl (tyX4_ok 6 (by decide +kernel)) rfl rfl (Nat.le_of_ble_eq_true rfl) (ps_134 _ _ _ _ _) dX4_await_29 (fun I_16 H locs eI_16 hP hD hS => ?_)
      replace hFr := fr_I (f := 134) hFr hO_this (by decide +kernel) eI_16
      replace hF := hF.trans (ap_n (vI_st (f := 134) hO_this (by decide +kernel) eI_16))
      have hG := GX.wI hG 134 rfl eI_16 (rg_w h_15 (by decide +kernel)) (by decide +kernel)
      have tt_17 : (I_16 132 this).toInt = (I 132 this).toInt := by rw [eI_16, pq_uf _ _ _ (by decide +kernel)]
      have tt_18 : (I_16 134 this).toInt = (x_14).toInt := by rw [eI_16, pq_us]
      have tt_19 : (I_16 129 this).toInt = (I 129 this).toInt := by rw [eI_16, pq_uf _ _ _ (by decide +kernel)]
      subst hQ
      exact W.vret hx hb hr (fun t1 ht hW => ⟨⟨(σ, I_16, J, r_13, rj, rq), rfl, ⟨I_16, r_13, rfl, hG, (by omega), (ft_w (fun _ _ => rfl) er_13 hT_w_3 (by decide +kernel)), (hF0.symm.trans hF), hFr⟩, by rw [ht]; exact hP, va_K.moved hW.alike hK, hD⟩, hS.F ht⟩) hS.2.2 dX4_await_32
  exact go _ _ _ hP hD hS hl

set_option maxRecDepth 100000 in
def g_X4_openUp (a0 : Int32) (I : Nat → Int32) (J : Nat → Int64) (ri : Nat → Nat → Int32) (rj : Nat → Nat → Int64) (rq : Nat → Nat → Option Nat) : vM := (ap1 (I 135) fun (y_1 : Int32) => (if (y_1) < (8 : Int32) then (ap1 ((y_1) + (1 : Int32)) fun (x_9 : Int32) => (ap1 (va_up I 135 x_9) fun (I_11 : Nat → Int32) => (if a0 = (29 : Int32) then (ap1 (I_11 136) fun (y_67 : Int32) => (ap1 ((y_67) + (1 : Int32)) fun (x_68 : Int32) => (ap1 (va_up I_11 136 x_68) fun (I_69 : Nat → Int32) => (ap1 (va_up I_69 137 (0 : Int32)) fun (I_77 : Nat → Int32) => (bnV (g_X4_await a0 I_77 J ri rj rq) fun (I_83 : Nat → Int32) (_ : Nat → Int64) (ri_84 : Nat → Nat → Int32) (_ : Nat → Nat → Int64) (_ : Nat → Nat → Option Nat) => (I_83, J, ri_84, rj, rq)))))) else (if a0 = (11 : Int32) then (ap1 (va_up I_11 137 (1 : Int32)) fun (I_46 : Nat → Int32) => (bnV (g_X4_await a0 I_46 J ri rj rq) fun (I_52 : Nat → Int32) (_ : Nat → Int64) (ri_53 : Nat → Nat → Int32) (_ : Nat → Nat → Int64) (_ : Nat → Nat → Option Nat) => (I_52, J, ri_53, rj, rq))) else (ap1 (va_up I_11 137 (0 : Int32)) fun (I_25 : Nat → Int32) => (bnV (g_X4_await a0 I_25 J ri rj rq) fun (I_31 : Nat → Int32) (_ : Nat → Int64) (ri_32 : Nat → Nat → Int32) (_ : Nat → Nat → Int64) (_ : Nat → Nat → Option Nat) => (I_31, J, ri_32, rj, rq))))))) else (bnV (g_X4_refuse (3 : Int32) I J ri rj rq) fun (I_101 : Nat → Int32) (_ : Nat → Int64) (_ : Nat → Nat → Int32) (_ : Nat → Nat → Int64) (_ : Nat → Nat → Option Nat) => (ap1 (I_101 135) fun (y_111 : Int32) => (ap1 ((y_111) + (1 : Int32)) fun (x_112 : Int32) => (ap1 (va_up I_101 135 x_112) fun (I_113 : Nat → Int32) => (if a0 = (29 : Int32) then (ap1 (I_113 136) fun (y_169 : Int32) => (ap1 ((y_169) + (1 : Int32)) fun (x_170 : Int32) => (ap1 (va_up I_113 136 x_170) fun (I_171 : Nat → Int32) => (ap1 (va_up I_171 137 (0 : Int32)) fun (I_179 : Nat → Int32) => (bnV (g_X4_await a0 I_179 J ri rj rq) fun (I_185 : Nat → Int32) (_ : Nat → Int64) (ri_186 : Nat → Nat → Int32) (_ : Nat → Nat → Int64) (_ : Nat → Nat → Option Nat) => (I_185, J, ri_186, rj, rq)))))) else (if a0 = (11 : Int32) then (ap1 (va_up I_113 137 (1 : Int32)) fun (I_148 : Nat → Int32) => (bnV (g_X4_await a0 I_148 J ri rj rq) fun (I_154 : Nat → Int32) (_ : Nat → Int64) (ri_155 : Nat → Nat → Int32) (_ : Nat → Nat → Int64) (_ : Nat → Nat → Option Nat) => (I_154, J, ri_155, rj, rq))) else (ap1 (va_up I_113 137 (0 : Int32)) fun (I_127 : Nat → Int32) => (bnV (g_X4_await a0 I_127 J ri rj rq) fun (I_133 : Nat → Int32) (_ : Nat → Int64) (ri_134 : Nat → Nat → Int32) (_ : Nat → Nat → Int64) (_ : Nat → Nat → Option Nat) => (I_133, J, ri_134, rj, rq)))))))))))
set_option maxRecDepth 100000 in
theorem g_X4_openUp_e {a0 : Int32} {I : Nat → Int32} {J : Nat → Int64} {ri : Nat → Nat → Int32} {rj : Nat → Nat → Int64} {rq : Nat → Nat → Option Nat} : g_X4_openUp a0 I J ri rj rq = (ap1 (I 135) fun (y_1 : Int32) => (if (y_1) < (8 : Int32) then (ap1 ((y_1) + (1 : Int32)) fun (x_9 : Int32) => (ap1 (va_up I 135 x_9) fun (I_11 : Nat → Int32) => (if a0 = (29 : Int32) then (ap1 (I_11 136) fun (y_67 : Int32) => (ap1 ((y_67) + (1 : Int32)) fun (x_68 : Int32) => (ap1 (va_up I_11 136 x_68) fun (I_69 : Nat → Int32) => (ap1 (va_up I_69 137 (0 : Int32)) fun (I_77 : Nat → Int32) => (bnV (g_X4_await a0 I_77 J ri rj rq) fun (I_83 : Nat → Int32) (_ : Nat → Int64) (ri_84 : Nat → Nat → Int32) (_ : Nat → Nat → Int64) (_ : Nat → Nat → Option Nat) => (I_83, J, ri_84, rj, rq)))))) else (if a0 = (11 : Int32) then (ap1 (va_up I_11 137 (1 : Int32)) fun (I_46 : Nat → Int32) => (bnV (g_X4_await a0 I_46 J ri rj rq) fun (I_52 : Nat → Int32) (_ : Nat → Int64) (ri_53 : Nat → Nat → Int32) (_ : Nat → Nat → Int64) (_ : Nat → Nat → Option Nat) => (I_52, J, ri_53, rj, rq))) else (ap1 (va_up I_11 137 (0 : Int32)) fun (I_25 : Nat → Int32) => (bnV (g_X4_await a0 I_25 J ri rj rq) fun (I_31 : Nat → Int32) (_ : Nat → Int64) (ri_32 : Nat → Nat → Int32) (_ : Nat → Nat → Int64) (_ : Nat → Nat → Option Nat) => (I_31, J, ri_32, rj, rq))))))) else (bnV (g_X4_refuse (3 : Int32) I J ri rj rq) fun (I_101 : Nat → Int32) (_ : Nat → Int64) (_ : Nat → Nat → Int32) (_ : Nat → Nat → Int64) (_ : Nat → Nat → Option Nat) => (ap1 (I_101 135) fun (y_111 : Int32) => (ap1 ((y_111) + (1 : Int32)) fun (x_112 : Int32) => (ap1 (va_up I_101 135 x_112) fun (I_113 : Nat → Int32) => (if a0 = (29 : Int32) then (ap1 (I_113 136) fun (y_169 : Int32) => (ap1 ((y_169) + (1 : Int32)) fun (x_170 : Int32) => (ap1 (va_up I_113 136 x_170) fun (I_171 : Nat → Int32) => (ap1 (va_up I_171 137 (0 : Int32)) fun (I_179 : Nat → Int32) => (bnV (g_X4_await a0 I_179 J ri rj rq) fun (I_185 : Nat → Int32) (_ : Nat → Int64) (ri_186 : Nat → Nat → Int32) (_ : Nat → Nat → Int64) (_ : Nat → Nat → Option Nat) => (I_185, J, ri_186, rj, rq)))))) else (if a0 = (11 : Int32) then (ap1 (va_up I_113 137 (1 : Int32)) fun (I_148 : Nat → Int32) => (bnV (g_X4_await a0 I_148 J ri rj rq) fun (I_154 : Nat → Int32) (_ : Nat → Int64) (ri_155 : Nat → Nat → Int32) (_ : Nat → Nat → Int64) (_ : Nat → Nat → Option Nat) => (I_154, J, ri_155, rj, rq))) else (ap1 (va_up I_113 137 (0 : Int32)) fun (I_127 : Nat → Int32) => (bnV (g_X4_await a0 I_127 J ri rj rq) fun (I_133 : Nat → Int32) (_ : Nat → Int64) (ri_134 : Nat → Nat → Int32) (_ : Nat → Nat → Int64) (_ : Nat → Nat → Option Nat) => (I_133, J, ri_134, rj, rq))))))))))) := rfl
set_option maxHeartbeats 4000000 in
set_option maxRecDepth 100000 in
theorem s_X4_openUp (l : Launch) (D : va_G) (t : pq_T) (σ : pq_S) (I : Nat → Nat → Int32) (J : Nat → Nat → Int64) (ri : Nat → Nat → Int32) (rj : Nat → Nat → Int64) (rq : Nat → Nat → Option Nat) (sz : Nat) (tg : Nat → Nat) (hSH : SH σ tg) (hG0 : GS tg σ I ri rq) (this : Nat) (a0 : Int32) (hL_this : this ∈ σ.1) (hK_this : σ.2.1 this = 4) : MetV l yX4_openUp (wa yX4_openUp cX4_openUp 2 none) ({ frames := 1, cells := 0, slots := 0, locals := 21 }) [.ref this, .int a0] D t σ (I, J, ri, rj, rq) sz 0 0 (fun (u : pq_S × pq_M) => ∃ I' : Nat → Nat → Int32, ∃ ri' : Nat → Nat → Int32, u = (σ, I', J, ri', rj, rq) ∧ GX [134, 129] tg σ I ri rj I' ri' rj rq ∧ ((I 134 this).toInt ≤ (I' 134 this).toInt ∧ (I' 134 this).toInt ≤ (I 134 this).toInt + 1) ∧ (∀ q, tg q = 258 → ri' q = ri q) ∧ g_X4_openUp a0 (vI 4 σ this I) (vJ 4 σ this J) (vR 4 σ this ri) (vL 4 σ this rj) (vQ 4 σ this rq) = ((vI 4 σ this I'), (vJ 4 σ this J), (vR 4 σ this ri'), (vL 4 σ this rj), (vQ 4 σ this rq)) ∧ FR 4 tg σ this (I, J, ri, rj, rq) (I', J, ri', rj, rq)) := by
  refine Met.ofW (cc := cX4_openUp) (maxL := 2) (ret := none) (by decide +kernel) rfl ?_
  intro p e s m args below meth c s₁ B hml hv
  obtain ⟨rfl, hsz, hP, hK, hD0, hN⟩ := hv
  have hx := B.exec
  have hb := B.bytes
  have hr := B.returns
  have hts := atoms_spec (ws := (wa yX4_openUp cX4_openUp 2 none)) B.pre
  have hown : s.vm.findClass RX4 = some m.cls := findClass_of_methodNamed B.named
  have hlocks := B.notSynchronized
  subst hsz
  have hD : va_D (pq_B t σ (I, J, ri, rj, rq) s.heap.size) (pq_P t σ (I, J, ri, rj, rq)) := hD0.self
  generalize hAe : pq_B t σ (I, J, ri, rj, rq) s.heap.size = A at hD ⊢
  have hA : ∀ q : Nat, s.heap.size ≤ q → A q := fun q h => by rw [← hAe]; exact Or.inr h
  have hS : va_S A s.heap s.heap [] := va_S.rf
  have hG : GX [134, 129] tg σ I ri rj I ri rj rq := ⟨hG0, fun _ _ _ => rfl, fun _ _ _ _ _ => rfl, fun _ _ _ _ _ => rfl⟩
  have hl := lv_entry ([.ref this, .int a0]) (n := 2) (Nat.le_of_ble_eq_true rfl)
  rw [lg_entry_eq]
  generalize (lg_sl ([.ref this, .int a0]) ++ List.replicate (2 - (lg_sl ([.ref this, .int a0])).length) Slot.unset).toArray = ls at hl ⊢
  have hl : lv_has ls 2 [(0, .ref this), (1, .int a0)] := hl
  refine q_gen (fun Q hQ => ?_)
  have go : ∀ (H : Heap) (locs : List Loc) (ls : Array Slot), va_P D vwCl (pq_P t σ (I, J, ri, rj, rq)) H → va_D A (pq_P t σ (I, J, ri, rj, rq)) → va_S A s.heap H locs → lv_has ls 2 [(0, .ref this), (1, .int a0)] → W p l e ({ frames := 1, cells := 0, slots := 0, locals := 21 } : Room) s m (List.toArray ([.ref this, .int a0] : List Value)) below meth c H locs 0 0 Q (F0 m 0 ls []) := by
    intro H locs ls hP hD hS hl
    have hO_this : this = vo σ 4 this := rfl
    have hVT : VT 4 σ tg this := vt_4 hSH hL_this hK_this
    have hFr : FR 4 tg σ this (I, J, ri, rj, rq) (I, J, ri, rj, rq) := fr_rf
    obtain ⟨F, hF0⟩ : ∃ F, F = g_X4_openUp a0 (vI 4 σ this I) (vJ 4 σ this J) (vR 4 σ this ri) (vL 4 σ this rj) (vQ 4 σ this rq) := ⟨_, rfl⟩
    have hF := hF0.trans g_X4_openUp_e
    refine lv_aload_n hx hb dX4_openUp_0 rfl (lv_at hl 0 rfl) ?_
    refine pg_f (v := .int (I 135 this)) (C := RX4) (T := TX4) (N := 12) hx hb hts (tw_i inlX4) hown hK hP hL_this hK_this (by decide +kernel) rfl 7 (by decide +kernel) (hts _ (tw_c tw_759)) rfl dX4_openUp_1 ?_
    replace hF := hF.trans (ap_n (vI_e (f := 135) hO_this (by decide +kernel)))
    refine lv_bipush (v := 8) hx hb dX4_openUp_4 (by decide +kernel) ?_
    refine lv_icmp_lt (tgt := 14) hx hb dX4_openUp_6 (by decide +kernel) (fun c_2 => ?_) (fun c_2 => ?_)
    · replace hF := hF.trans (if_pos c_2)
      have tc_7 : (I 135 this).toInt < 8 := Int32.lt_iff_toInt_lt.mp c_2
      have h_8 : rg (I 135 this) (-2147483648) 7 := rg_lt1 c_2 (rg_full _) (rg_k (8 : Int32) 8 rfl) (by decide +kernel)
      have uh_8 := h_8.1
      have vh_8 := h_8.2
      refine lv_aload_n hx hb dX4_openUp_14 rfl (lv_at hl 0 rfl) ?_
      refine lv_dup hx hb dX4_openUp_15 rfl ?_
      refine pg_f (v := .int (I 135 this)) (C := RX4) (T := TX4) (N := 12) hx hb hts (tw_i inlX4) hown hK hP hL_this hK_this (by decide +kernel) rfl 7 (by decide +kernel) (hts _ (tw_c tw_759)) rfl dX4_openUp_16 ?_
      refine lv_iconst (v := 1) hx hb dX4_openUp_19 (by decide +kernel) ?_
      refine lv_iadd hx hb dX4_openUp_20 ?_
      refine lv_topi (fun x_9 ex_9 => ?_)
      replace hF := hF.trans (ap_n ex_9)
      have h_10 : rg x_9 (-2147483647) 8 := rg_of_eq ex_9 (rg_add h_8 (rg_k (1 : Int32) 1 rfl) (by decide +kernel))
      have uh_10 := h_10.1
      have vh_10 := h_10.2
      have tx_9 : (x_9).toInt = (I 135 this).toInt + 1 := by rw [ex_9]; exact i_add_rg (a2 := (I 135 this).toInt) (b2 := 1) rfl rfl h_8 (rg_k (1 : Int32) 1 rfl) (by decide +kernel)
      refine pp_i (v := x_9) (ty := .int) (C := RX4) (T := TX4) (N := 12) hx hb hts (tw_i inlX4) tyX4 tyX4_ok nmX4 hown hK hP hD hS hL_this hK_this (by decide +kernel) rfl 7 135 (by decide +kernel) (hts _ (tw_c tw_759)) rfl (tyX4_ok 7 (by decide +kernel)) rfl rfl (Nat.le_of_ble_eq_true rfl) (ps_135 _ _ _ _ _) dX4_openUp_21 (fun I_11 H locs eI_11 hP hD hS => ?_)
      replace hFr := fr_I (f := 135) hFr hO_this (by decide +kernel) eI_11
      replace hF := hF.trans (ap_n (vI_st (f := 135) hO_this (by decide +kernel) eI_11))
      have hG := GX.wI hG 135 rfl eI_11 (rg_w h_10 (by decide +kernel)) (by decide +kernel)
      have tt_12 : (I_11 132 this).toInt = (I 132 this).toInt := by rw [eI_11, pq_uf _ _ _ (by decide +kernel)]
      have tt_13 : (I_11 134 this).toInt = (I 134 this).toInt := by rw [eI_11, pq_uf _ _ _ (by decide +kernel)]
      have tt_14 : (I_11 129 this).toInt = (I 129 this).toInt := by rw [eI_11, pq_uf _ _ _ (by decide +kernel)]
      refine lv_iload_n hx hb dX4_openUp_24 rfl (lv_at hl 1 rfl) ?_
      refine lv_bipush (v := 29) hx hb dX4_openUp_25 (by decide +kernel) ?_
      refine lv_icmp_ne (tgt := 40) hx hb dX4_openUp_27 (by decide +kernel) (fun c_15 => ?_) (fun c_15 => ?_)
      · replace hF := hF.trans (if_neg c_15)
        have tc_19 : (a0).toInt ≠ 29 := fun q => c_15 (Int32.toInt_inj.mp q)
        refine lv_aload_n hx hb dX4_openUp_40 rfl (lv_at hl 0 rfl) ?_
        refine lv_iload_n hx hb dX4_openUp_41 rfl (lv_at hl 1 rfl) ?_
        refine lv_bipush (v := 11) hx hb dX4_openUp_42 (by decide +kernel) ?_
        refine lv_icmp_ne (tgt := 51) hx hb dX4_openUp_44 (by decide +kernel) (fun c_20 => ?_) (fun c_20 => ?_)
        · replace hF := hF.trans (if_neg c_20)
          have tc_24 : (a0).toInt ≠ 11 := fun q => c_20 (Int32.toInt_inj.mp q)
          refine lv_iconst (v := 0) hx hb dX4_openUp_51 (by decide +kernel) ?_
          refine pp_i (v := 0) (ty := .boolean) (C := RX4) (T := TX4) (N := 12) hx hb hts (tw_i inlX4) tyX4 tyX4_ok nmX4 hown hK hP hD hS hL_this hK_this (by decide +kernel) rfl 9 137 (by decide +kernel) (hts _ (tw_c tw_761)) rfl (tyX4_ok 9 (by decide +kernel)) rfl (by decide +kernel) (Nat.le_of_ble_eq_true rfl) (ps_137 _ _ _ _ _) dX4_openUp_52 (fun I_25 H locs eI_25 hP hD hS => ?_)
          replace hFr := fr_I (f := 137) hFr hO_this (by decide +kernel) eI_25
          replace hF := hF.trans (ap_n (vI_st (f := 137) hO_this (by decide +kernel) eI_25))
          have hG := GX.wI hG 137 rfl eI_25 (rg_w (rg_k (0 : Int32) 0 rfl) (by decide +kernel)) (by decide +kernel)
          have tt_26 : (I_25 132 this).toInt = (I_11 132 this).toInt := by rw [eI_25, pq_uf _ _ _ (by decide +kernel)]
          have tt_27 : (I_25 134 this).toInt = (I_11 134 this).toInt := by rw [eI_25, pq_uf _ _ _ (by decide +kernel)]
          have tt_28 : (I_25 129 this).toInt = (I_11 129 this).toInt := by rw [eI_25, pq_uf _ _ _ (by decide +kernel)]
          refine lv_aload_n hx hb dX4_openUp_55 rfl (lv_at hl 0 rfl) ?_
          refine lv_iload_n hx hb dX4_openUp_56 rfl (lv_at hl 1 rfl) ?_
          refine pk_v (va_runV (As := [.int a0]) (rest := []) ⟨hx, hb, hml, hown, hts⟩ (s_X4_await l D t σ I_25 J ri rj rq H.size tg hSH hG.1 this a0 hL_this hK_this) (cwV 1 hts (tw_V tw_781 tw_782 tw_783 tw_25 tw_784) rfl rfl rfl cv_yX4_await_1 ⟨Nat.le_of_ble_eq_true rfl, Nat.le_of_ble_eq_true rfl⟩) ⟨pq_blind, pq_recv hK hP hL_this hK_this (by decide +kernel) rfl, pq_pre hK hN hP hD⟩ rfl rfl hl.1 rfl (lv_room (Nat.le_of_ble_eq_true rfl)) dX4_openUp_57 ⟨Nat.le_of_ble_eq_true rfl, Nat.le_of_ble_eq_true rfl⟩) hD hS hA (fun σ1 μ1 H locs hw_30 hP hD hS => ?_)
          obtain ⟨I_31, ri_32, hu_33, hg_34, hp_36, hp_37, hfn_38, hfr_39⟩ := hw_30
          obtain ⟨hu_33a, hu_33b⟩ := Prod.mk.inj hu_33
          rw [hu_33a, hu_33b] at hP hD
          replace hF := hF.trans (bv_n hfn_38)
          replace hFr := fr_tr hFr hfr_39
          have tt_40 := hp_36
          have tt_41 := hp_37
          have hG := GX.tr hG hg_34 (by decide +kernel)
          have tt_42 : (I_31 132 this).toInt = (I_25 132 this).toInt := by rw [hg_34.2.1 132 (by decide +kernel) (by decide +kernel)]
          have tt_43 : (I_31 129 this).toInt = (I_25 129 this).toInt := by rw [hg_34.2.1 129 (by decide +kernel) (by decide +kernel)]
          subst hQ
          exact W.vret hx hb hr (fun t1 ht hW => ⟨⟨(σ, I_31, J, ri_32, rj, rq), rfl, ⟨I_31, ri_32, rfl, hG, (by omega), (ft_t (fun _ _ => rfl) hp_37), (hF0.symm.trans hF), hFr⟩, by rw [ht]; exact hP, va_K.moved hW.alike hK, hD⟩, hS.F ht⟩) hS.2.2 dX4_openUp_60
        · replace hF := hF.trans (if_pos c_20)
          have tc_44 : (a0).toInt = 11 := congrArg Int32.toInt c_20
          have h_45 : rg a0 11 11 := rg_and (rg_full _) (rg_of_eq c_20 (rg_k (11 : Int32) 11 rfl)) (by decide +kernel)
          have uh_45 := h_45.1
          have vh_45 := h_45.2
          refine lv_iconst (v := 1) hx hb dX4_openUp_47 (by decide +kernel) ?_
          refine lv_goto (tgt := 52) hx hb dX4_openUp_48 (by decide +kernel) ?_
          refine pp_i (v := 1) (ty := .boolean) (C := RX4) (T := TX4) (N := 12) hx hb hts (tw_i inlX4) tyX4 tyX4_ok nmX4 hown hK hP hD hS hL_this hK_this (by decide +kernel) rfl 9 137 (by decide +kernel) (hts _ (tw_c tw_761)) rfl (tyX4_ok 9 (by decide +kernel)) rfl (by decide +kernel) (Nat.le_of_ble_eq_true rfl) (ps_137 _ _ _ _ _) dX4_openUp_52 (fun I_46 H locs eI_46 hP hD hS => ?_)
          replace hFr := fr_I (f := 137) hFr hO_this (by decide +kernel) eI_46
          replace hF := hF.trans (ap_n (vI_st (f := 137) hO_this (by decide +kernel) eI_46))
          have hG := GX.wI hG 137 rfl eI_46 (rg_w (rg_k (1 : Int32) 1 rfl) (by decide +kernel)) (by decide +kernel)
          have tt_47 : (I_46 132 this).toInt = (I_11 132 this).toInt := by rw [eI_46, pq_uf _ _ _ (by decide +kernel)]
          have tt_48 : (I_46 134 this).toInt = (I_11 134 this).toInt := by rw [eI_46, pq_uf _ _ _ (by decide +kernel)]
          have tt_49 : (I_46 129 this).toInt = (I_11 129 this).toInt := by rw [eI_46, pq_uf _ _ _ (by decide +kernel)]
          refine lv_aload_n hx hb dX4_openUp_55 rfl (lv_at hl 0 rfl) ?_
          refine lv_iload_n hx hb dX4_openUp_56 rfl (lv_at hl 1 rfl) ?_
          refine pk_v (va_runV (As := [.int a0]) (rest := []) ⟨hx, hb, hml, hown, hts⟩ (s_X4_await l D t σ I_46 J ri rj rq H.size tg hSH hG.1 this a0 hL_this hK_this) (cwV 1 hts (tw_V tw_781 tw_782 tw_783 tw_25 tw_784) rfl rfl rfl cv_yX4_await_1 ⟨Nat.le_of_ble_eq_true rfl, Nat.le_of_ble_eq_true rfl⟩) ⟨pq_blind, pq_recv hK hP hL_this hK_this (by decide +kernel) rfl, pq_pre hK hN hP hD⟩ rfl rfl hl.1 rfl (lv_room (Nat.le_of_ble_eq_true rfl)) dX4_openUp_57 ⟨Nat.le_of_ble_eq_true rfl, Nat.le_of_ble_eq_true rfl⟩) hD hS hA (fun σ1 μ1 H locs hw_51 hP hD hS => ?_)
          obtain ⟨I_52, ri_53, hu_54, hg_55, hp_57, hp_58, hfn_59, hfr_60⟩ := hw_51
          obtain ⟨hu_54a, hu_54b⟩ := Prod.mk.inj hu_54
          rw [hu_54a, hu_54b] at hP hD
          replace hF := hF.trans (bv_n hfn_59)
          replace hFr := fr_tr hFr hfr_60
          have tt_61 := hp_57
          have tt_62 := hp_58
          have hG := GX.tr hG hg_55 (by decide +kernel)
          have tt_63 : (I_52 132 this).toInt = (I_46 132 this).toInt := by rw [hg_55.2.1 132 (by decide +kernel) (by decide +kernel)]
          have tt_64 : (I_52 129 this).toInt = (I_46 129 this).toInt := by rw [hg_55.2.1 129 (by decide +kernel) (by decide +kernel)]
          subst hQ
          exact W.vret hx hb hr (fun t1 ht hW => ⟨⟨(σ, I_52, J, ri_53, rj, rq), rfl, ⟨I_52, ri_53, rfl, hG, (by omega), (ft_t (fun _ _ => rfl) hp_58), (hF0.symm.trans hF), hFr⟩, by rw [ht]; exact hP, va_K.moved hW.alike hK, hD⟩, hS.F ht⟩) hS.2.2 dX4_openUp_60
      · replace hF := hF.trans (if_pos c_15)
        have tc_65 : (a0).toInt = 29 := congrArg Int32.toInt c_15
        have h_66 : rg a0 29 29 := rg_and (rg_full _) (rg_of_eq c_15 (rg_k (29 : Int32) 29 rfl)) (by decide +kernel)
        have uh_66 := h_66.1
        have vh_66 := h_66.2
        refine lv_aload_n hx hb dX4_openUp_30 rfl (lv_at hl 0 rfl) ?_
        refine lv_dup hx hb dX4_openUp_31 rfl ?_
        refine pg_f (v := .int (I_11 136 this)) (C := RX4) (T := TX4) (N := 12) hx hb hts (tw_i inlX4) hown hK hP hL_this hK_this (by decide +kernel) rfl 8 (by decide +kernel) (hts _ (tw_c tw_760)) rfl dX4_openUp_32 ?_
        replace hF := hF.trans (ap_n (vI_e (f := 136) hO_this (by decide +kernel)))
        refine lv_iconst (v := 1) hx hb dX4_openUp_35 (by decide +kernel) ?_
        refine lv_iadd hx hb dX4_openUp_36 ?_
        refine lv_topi (fun x_68 ex_68 => ?_)
        replace hF := hF.trans (ap_n ex_68)
        refine pp_i (v := x_68) (ty := .int) (C := RX4) (T := TX4) (N := 12) hx hb hts (tw_i inlX4) tyX4 tyX4_ok nmX4 hown hK hP hD hS hL_this hK_this (by decide +kernel) rfl 8 136 (by decide +kernel) (hts _ (tw_c tw_760)) rfl (tyX4_ok 8 (by decide +kernel)) rfl rfl (Nat.le_of_ble_eq_true rfl) (ps_136 _ _ _ _ _) dX4_openUp_37 (fun I_69 H locs eI_69 hP hD hS => ?_)
        replace hFr := fr_I (f := 136) hFr hO_this (by decide +kernel) eI_69
        replace hF := hF.trans (ap_n (vI_st (f := 136) hO_this (by decide +kernel) eI_69))
        have hG := GX.wI hG 136 rfl eI_69 (rg_w (rg_full _) (by decide +kernel)) (by decide +kernel)
        have tt_70 : (I_69 132 this).toInt = (I_11 132 this).toInt := by rw [eI_69, pq_uf _ _ _ (by decide +kernel)]
        have tt_71 : (I_69 134 this).toInt = (I_11 134 this).toInt := by rw [eI_69, pq_uf _ _ _ (by decide +kernel)]
        have tt_72 : (I_69 129 this).toInt = (I_11 129 this).toInt := by rw [eI_69, pq_uf _ _ _ (by decide +kernel)]
        refine lv_aload_n hx hb dX4_openUp_40 rfl (lv_at hl 0 rfl) ?_
        refine lv_iload_n hx hb dX4_openUp_41 rfl (lv_at hl 1 rfl) ?_
        refine lv_bipush (v := 11) hx hb dX4_openUp_42 (by decide +kernel) ?_
        refine lv_icmp_ne (tgt := 51) hx hb dX4_openUp_44 (by decide +kernel) (fun c_73 => ?_) (fun c_73 => ?_)
        · have tc_76 : (a0).toInt ≠ 11 := fun q => c_73 (Int32.toInt_inj.mp q)
          refine lv_iconst (v := 0) hx hb dX4_openUp_51 (by decide +kernel) ?_
          refine pp_i (v := 0) (ty := .boolean) (C := RX4) (T := TX4) (N := 12) hx hb hts (tw_i inlX4) tyX4 tyX4_ok nmX4 hown hK hP hD hS hL_this hK_this (by decide +kernel) rfl 9 137 (by decide +kernel) (hts _ (tw_c tw_761)) rfl (tyX4_ok 9 (by decide +kernel)) rfl (by decide +kernel) (Nat.le_of_ble_eq_true rfl) (ps_137 _ _ _ _ _) dX4_openUp_52 (fun I_77 H locs eI_77 hP hD hS => ?_)
          replace hFr := fr_I (f := 137) hFr hO_this (by decide +kernel) eI_77
          replace hF := hF.trans (ap_n (vI_st (f := 137) hO_this (by decide +kernel) eI_77))
          have hG := GX.wI hG 137 rfl eI_77 (rg_w (rg_k (0 : Int32) 0 rfl) (by decide +kernel)) (by decide +kernel)
          have tt_78 : (I_77 132 this).toInt = (I_69 132 this).toInt := by rw [eI_77, pq_uf _ _ _ (by decide +kernel)]
          have tt_79 : (I_77 134 this).toInt = (I_69 134 this).toInt := by rw [eI_77, pq_uf _ _ _ (by decide +kernel)]
          have tt_80 : (I_77 129 this).toInt = (I_69 129 this).toInt := by rw [eI_77, pq_uf _ _ _ (by decide +kernel)]
          refine lv_aload_n hx hb dX4_openUp_55 rfl (lv_at hl 0 rfl) ?_
          refine lv_iload_n hx hb dX4_openUp_56 rfl (lv_at hl 1 rfl) ?_
          refine pk_v (va_runV (As := [.int a0]) (rest := []) ⟨hx, hb, hml, hown, hts⟩ (s_X4_await l D t σ I_77 J ri rj rq H.size tg hSH hG.1 this a0 hL_this hK_this) (cwV 1 hts (tw_V tw_781 tw_782 tw_783 tw_25 tw_784) rfl rfl rfl cv_yX4_await_1 ⟨Nat.le_of_ble_eq_true rfl, Nat.le_of_ble_eq_true rfl⟩) ⟨pq_blind, pq_recv hK hP hL_this hK_this (by decide +kernel) rfl, pq_pre hK hN hP hD⟩ rfl rfl hl.1 rfl (lv_room (Nat.le_of_ble_eq_true rfl)) dX4_openUp_57 ⟨Nat.le_of_ble_eq_true rfl, Nat.le_of_ble_eq_true rfl⟩) hD hS hA (fun σ1 μ1 H locs hw_82 hP hD hS => ?_)
          obtain ⟨I_83, ri_84, hu_85, hg_86, hp_88, hp_89, hfn_90, hfr_91⟩ := hw_82
          obtain ⟨hu_85a, hu_85b⟩ := Prod.mk.inj hu_85
          rw [hu_85a, hu_85b] at hP hD
          replace hF := hF.trans (bv_n hfn_90)
          replace hFr := fr_tr hFr hfr_91
          have tt_92 := hp_88
          have tt_93 := hp_89
          have hG := GX.tr hG hg_86 (by decide +kernel)
          have tt_94 : (I_83 132 this).toInt = (I_77 132 this).toInt := by rw [hg_86.2.1 132 (by decide +kernel) (by decide +kernel)]
          have tt_95 : (I_83 129 this).toInt = (I_77 129 this).toInt := by rw [hg_86.2.1 129 (by decide +kernel) (by decide +kernel)]
          subst hQ
          exact W.vret hx hb hr (fun t1 ht hW => ⟨⟨(σ, I_83, J, ri_84, rj, rq), rfl, ⟨I_83, ri_84, rfl, hG, (by omega), (ft_t (fun _ _ => rfl) hp_89), (hF0.symm.trans hF), hFr⟩, by rw [ht]; exact hP, va_K.moved hW.alike hK, hD⟩, hS.F ht⟩) hS.2.2 dX4_openUp_60
        · have tc_96 : (a0).toInt = 11 := congrArg Int32.toInt c_73
          exact (rg_empty (rg_and h_66 (rg_of_eq c_73 (rg_k (11 : Int32) 11 rfl)) (lo := 29) (hi := 11) (by decide +kernel)) (by decide +kernel)).elim
    · replace hF := hF.trans (if_neg c_2)
      have tc_97 : 8 ≤ (I 135 this).toInt := Int32.le_iff_toInt_le.mp (nlt c_2)
      have h_98 : rg (I 135 this) 8 2147483647 := rg_le2 (nlt c_2) (rg_k (8 : Int32) 8 rfl) (rg_full _) (by decide +kernel)
      have uh_98 := h_98.1
      have vh_98 := h_98.2
      refine lv_aload_n hx hb dX4_openUp_9 rfl (lv_at hl 0 rfl) ?_
      refine lv_iconst (v := 3) hx hb dX4_openUp_10 (by decide +kernel) ?_
      refine pk_v (va_runV (As := [.int 3]) (rest := []) ⟨hx, hb, hml, hown, hts⟩ (s_X4_refuse l D t σ I J ri rj rq H.size tg hSH hG.1 this (3 : Int32) hL_this hK_this (rg_w (rg_k (3 : Int32) 3 rfl) (by decide +kernel))) (cwV 1 hts (tw_V tw_748 tw_749 tw_750 tw_25 tw_751) rfl rfl rfl cv_yX4_refuse_1 ⟨Nat.le_of_ble_eq_true rfl, Nat.le_of_ble_eq_true rfl⟩) ⟨pq_blind, pq_recv hK hP hL_this hK_this (by decide +kernel) rfl, pq_pre hK hN hP hD⟩ rfl rfl hl.1 rfl (lv_room (Nat.le_of_ble_eq_true rfl)) dX4_openUp_11 ⟨Nat.le_of_ble_eq_true rfl, Nat.le_of_ble_eq_true rfl⟩) hD hS hA (fun σ1 μ1 H locs hw_100 hP hD hS => ?_)
      obtain ⟨I_101, hu_102, hg_103, hp_105, hfn_106, hfr_107⟩ := hw_100
      obtain ⟨hu_102a, hu_102b⟩ := Prod.mk.inj hu_102
      rw [hu_102a, hu_102b] at hP hD
      replace hF := hF.trans (bv_n hfn_106)
      replace hFr := fr_tr hFr hfr_107
      have tt_108 := hp_105
      have hG := GX.tr hG hg_103 (by decide +kernel)
      have tt_109 : (I_101 132 this).toInt = (I 132 this).toInt := by rw [hg_103.2.1 132 (by decide +kernel) (by decide +kernel)]
      have tt_110 : (I_101 134 this).toInt = (I 134 this).toInt := by rw [hg_103.2.1 134 (by decide +kernel) (by decide +kernel)]
      refine lv_aload_n hx hb dX4_openUp_14 rfl (lv_at hl 0 rfl) ?_
      refine lv_dup hx hb dX4_openUp_15 rfl ?_
      refine pg_f (v := .int (I_101 135 this)) (C := RX4) (T := TX4) (N := 12) hx hb hts (tw_i inlX4) hown hK hP hL_this hK_this (by decide +kernel) rfl 7 (by decide +kernel) (hts _ (tw_c tw_759)) rfl dX4_openUp_16 ?_
      replace hF := hF.trans (ap_n (vI_e (f := 135) hO_this (by decide +kernel)))
      refine lv_iconst (v := 1) hx hb dX4_openUp_19 (by decide +kernel) ?_
      refine lv_iadd hx hb dX4_openUp_20 ?_
      refine lv_topi (fun x_112 ex_112 => ?_)
      replace hF := hF.trans (ap_n ex_112)
      refine pp_i (v := x_112) (ty := .int) (C := RX4) (T := TX4) (N := 12) hx hb hts (tw_i inlX4) tyX4 tyX4_ok nmX4 hown hK hP hD hS hL_this hK_this (by decide +kernel) rfl 7 135 (by decide +kernel) (hts _ (tw_c tw_759)) rfl (tyX4_ok 7 (by decide +kernel)) rfl rfl (Nat.le_of_ble_eq_true rfl) (ps_135 _ _ _ _ _) dX4_openUp_21 (fun I_113 H locs eI_113 hP hD hS => ?_)
      replace hFr := fr_I (f := 135) hFr hO_this (by decide +kernel) eI_113
      replace hF := hF.trans (ap_n (vI_st (f := 135) hO_this (by decide +kernel) eI_113))
      have hG := GX.wI hG 135 rfl eI_113 (rg_w (rg_full _) (by decide +kernel)) (by decide +kernel)
      have tt_114 : (I_113 132 this).toInt = (I_101 132 this).toInt := by rw [eI_113, pq_uf _ _ _ (by decide +kernel)]
      have tt_115 : (I_113 134 this).toInt = (I_101 134 this).toInt := by rw [eI_113, pq_uf _ _ _ (by decide +kernel)]
      have tt_116 : (I_113 129 this).toInt = (I_101 129 this).toInt := by rw [eI_113, pq_uf _ _ _ (by decide +kernel)]
      refine lv_iload_n hx hb dX4_openUp_24 rfl (lv_at hl 1 rfl) ?_
      refine lv_bipush (v := 29) hx hb dX4_openUp_25 (by decide +kernel) ?_
      refine lv_icmp_ne (tgt := 40) hx hb dX4_openUp_27 (by decide +kernel) (fun c_117 => ?_) (fun c_117 => ?_)
      · replace hF := hF.trans (if_neg c_117)
        have tc_121 : (a0).toInt ≠ 29 := fun q => c_117 (Int32.toInt_inj.mp q)
        refine lv_aload_n hx hb dX4_openUp_40 rfl (lv_at hl 0 rfl) ?_
        refine lv_iload_n hx hb dX4_openUp_41 rfl (lv_at hl 1 rfl) ?_
        refine lv_bipush (v := 11) hx hb dX4_openUp_42 (by decide +kernel) ?_
        refine lv_icmp_ne (tgt := 51) hx hb dX4_openUp_44 (by decide +kernel) (fun c_122 => ?_) (fun c_122 => ?_)
        · replace hF := hF.trans (if_neg c_122)
          have tc_126 : (a0).toInt ≠ 11 := fun q => c_122 (Int32.toInt_inj.mp q)
          refine lv_iconst (v := 0) hx hb dX4_openUp_51 (by decide +kernel) ?_
          refine pp_i (v := 0) (ty := .boolean) (C := RX4) (T := TX4) (N := 12) hx hb hts (tw_i inlX4) tyX4 tyX4_ok nmX4 hown hK hP hD hS hL_this hK_this (by decide +kernel) rfl 9 137 (by decide +kernel) (hts _ (tw_c tw_761)) rfl (tyX4_ok 9 (by decide +kernel)) rfl (by decide +kernel) (Nat.le_of_ble_eq_true rfl) (ps_137 _ _ _ _ _) dX4_openUp_52 (fun I_127 H locs eI_127 hP hD hS => ?_)
          replace hFr := fr_I (f := 137) hFr hO_this (by decide +kernel) eI_127
          replace hF := hF.trans (ap_n (vI_st (f := 137) hO_this (by decide +kernel) eI_127))
          have hG := GX.wI hG 137 rfl eI_127 (rg_w (rg_k (0 : Int32) 0 rfl) (by decide +kernel)) (by decide +kernel)
          have tt_128 : (I_127 132 this).toInt = (I_113 132 this).toInt := by rw [eI_127, pq_uf _ _ _ (by decide +kernel)]
          have tt_129 : (I_127 134 this).toInt = (I_113 134 this).toInt := by rw [eI_127, pq_uf _ _ _ (by decide +kernel)]
          have tt_130 : (I_127 129 this).toInt = (I_113 129 this).toInt := by rw [eI_127, pq_uf _ _ _ (by decide +kernel)]
          refine lv_aload_n hx hb dX4_openUp_55 rfl (lv_at hl 0 rfl) ?_
          refine lv_iload_n hx hb dX4_openUp_56 rfl (lv_at hl 1 rfl) ?_
          refine pk_v (va_runV (As := [.int a0]) (rest := []) ⟨hx, hb, hml, hown, hts⟩ (s_X4_await l D t σ I_127 J ri rj rq H.size tg hSH hG.1 this a0 hL_this hK_this) (cwV 1 hts (tw_V tw_781 tw_782 tw_783 tw_25 tw_784) rfl rfl rfl cv_yX4_await_1 ⟨Nat.le_of_ble_eq_true rfl, Nat.le_of_ble_eq_true rfl⟩) ⟨pq_blind, pq_recv hK hP hL_this hK_this (by decide +kernel) rfl, pq_pre hK hN hP hD⟩ rfl rfl hl.1 rfl (lv_room (Nat.le_of_ble_eq_true rfl)) dX4_openUp_57 ⟨Nat.le_of_ble_eq_true rfl, Nat.le_of_ble_eq_true rfl⟩) hD hS hA (fun σ1 μ1 H locs hw_132 hP hD hS => ?_)
          obtain ⟨I_133, ri_134, hu_135, hg_136, hp_138, hp_139, hfn_140, hfr_141⟩ := hw_132
          obtain ⟨hu_135a, hu_135b⟩ := Prod.mk.inj hu_135
          rw [hu_135a, hu_135b] at hP hD
          replace hF := hF.trans (bv_n hfn_140)
          replace hFr := fr_tr hFr hfr_141
          have tt_142 := hp_138
          have tt_143 := hp_139
          have hG := GX.tr hG hg_136 (by decide +kernel)
          have tt_144 : (I_133 132 this).toInt = (I_127 132 this).toInt := by rw [hg_136.2.1 132 (by decide +kernel) (by decide +kernel)]
          have tt_145 : (I_133 129 this).toInt = (I_127 129 this).toInt := by rw [hg_136.2.1 129 (by decide +kernel) (by decide +kernel)]
          subst hQ
          exact W.vret hx hb hr (fun t1 ht hW => ⟨⟨(σ, I_133, J, ri_134, rj, rq), rfl, ⟨I_133, ri_134, rfl, hG, (by omega), (ft_t (fun _ _ => rfl) hp_139), (hF0.symm.trans hF), hFr⟩, by rw [ht]; exact hP, va_K.moved hW.alike hK, hD⟩, hS.F ht⟩) hS.2.2 dX4_openUp_60
        · replace hF := hF.trans (if_pos c_122)
          have tc_146 : (a0).toInt = 11 := congrArg Int32.toInt c_122
          have h_147 : rg a0 11 11 := rg_and (rg_full _) (rg_of_eq c_122 (rg_k (11 : Int32) 11 rfl)) (by decide +kernel)
          have uh_147 := h_147.1
          have vh_147 := h_147.2
          refine lv_iconst (v := 1) hx hb dX4_openUp_47 (by decide +kernel) ?_
          refine lv_goto (tgt := 52) hx hb dX4_openUp_48 (by decide +kernel) ?_
          refine pp_i (v := 1) (ty := .boolean) (C := RX4) (T := TX4) (N := 12) hx hb hts (tw_i inlX4) tyX4 tyX4_ok nmX4 hown hK hP hD hS hL_this hK_this (by decide +kernel) rfl 9 137 (by decide +kernel) (hts _ (tw_c tw_761)) rfl (tyX4_ok 9 (by decide +kernel)) rfl (by decide +kernel) (Nat.le_of_ble_eq_true rfl) (ps_137 _ _ _ _ _) dX4_openUp_52 (fun I_148 H locs eI_148 hP hD hS => ?_)
          replace hFr := fr_I (f := 137) hFr hO_this (by decide +kernel) eI_148
          replace hF := hF.trans (ap_n (vI_st (f := 137) hO_this (by decide +kernel) eI_148))
          have hG := GX.wI hG 137 rfl eI_148 (rg_w (rg_k (1 : Int32) 1 rfl) (by decide +kernel)) (by decide +kernel)
          have tt_149 : (I_148 132 this).toInt = (I_113 132 this).toInt := by rw [eI_148, pq_uf _ _ _ (by decide +kernel)]
          have tt_150 : (I_148 134 this).toInt = (I_113 134 this).toInt := by rw [eI_148, pq_uf _ _ _ (by decide +kernel)]
          have tt_151 : (I_148 129 this).toInt = (I_113 129 this).toInt := by rw [eI_148, pq_uf _ _ _ (by decide +kernel)]
          refine lv_aload_n hx hb dX4_openUp_55 rfl (lv_at hl 0 rfl) ?_
          refine lv_iload_n hx hb dX4_openUp_56 rfl (lv_at hl 1 rfl) ?_
          refine pk_v (va_runV (As := [.int a0]) (rest := []) ⟨hx, hb, hml, hown, hts⟩ (s_X4_await l D t σ I_148 J ri rj rq H.size tg hSH hG.1 this a0 hL_this hK_this) (cwV 1 hts (tw_V tw_781 tw_782 tw_783 tw_25 tw_784) rfl rfl rfl cv_yX4_await_1 ⟨Nat.le_of_ble_eq_true rfl, Nat.le_of_ble_eq_true rfl⟩) ⟨pq_blind, pq_recv hK hP hL_this hK_this (by decide +kernel) rfl, pq_pre hK hN hP hD⟩ rfl rfl hl.1 rfl (lv_room (Nat.le_of_ble_eq_true rfl)) dX4_openUp_57 ⟨Nat.le_of_ble_eq_true rfl, Nat.le_of_ble_eq_true rfl⟩) hD hS hA (fun σ1 μ1 H locs hw_153 hP hD hS => ?_)
          obtain ⟨I_154, ri_155, hu_156, hg_157, hp_159, hp_160, hfn_161, hfr_162⟩ := hw_153
          obtain ⟨hu_156a, hu_156b⟩ := Prod.mk.inj hu_156
          rw [hu_156a, hu_156b] at hP hD
          replace hF := hF.trans (bv_n hfn_161)
          replace hFr := fr_tr hFr hfr_162
          have tt_163 := hp_159
          have tt_164 := hp_160
          have hG := GX.tr hG hg_157 (by decide +kernel)
          have tt_165 : (I_154 132 this).toInt = (I_148 132 this).toInt := by rw [hg_157.2.1 132 (by decide +kernel) (by decide +kernel)]
          have tt_166 : (I_154 129 this).toInt = (I_148 129 this).toInt := by rw [hg_157.2.1 129 (by decide +kernel) (by decide +kernel)]
          subst hQ
          exact W.vret hx hb hr (fun t1 ht hW => ⟨⟨(σ, I_154, J, ri_155, rj, rq), rfl, ⟨I_154, ri_155, rfl, hG, (by omega), (ft_t (fun _ _ => rfl) hp_160), (hF0.symm.trans hF), hFr⟩, by rw [ht]; exact hP, va_K.moved hW.alike hK, hD⟩, hS.F ht⟩) hS.2.2 dX4_openUp_60
      · replace hF := hF.trans (if_pos c_117)
        have tc_167 : (a0).toInt = 29 := congrArg Int32.toInt c_117
        have h_168 : rg a0 29 29 := rg_and (rg_full _) (rg_of_eq c_117 (rg_k (29 : Int32) 29 rfl)) (by decide +kernel)
        have uh_168 := h_168.1
        have vh_168 := h_168.2
        refine lv_aload_n hx hb dX4_openUp_30 rfl (lv_at hl 0 rfl) ?_
        refine lv_dup hx hb dX4_openUp_31 rfl ?_
        refine pg_f (v := .int (I_113 136 this)) (C := RX4) (T := TX4) (N := 12) hx hb hts (tw_i inlX4) hown hK hP hL_this hK_this (by decide +kernel) rfl 8 (by decide +kernel) (hts _ (tw_c tw_760)) rfl dX4_openUp_32 ?_
        replace hF := hF.trans (ap_n (vI_e (f := 136) hO_this (by decide +kernel)))
        refine lv_iconst (v := 1) hx hb dX4_openUp_35 (by decide +kernel) ?_
        refine lv_iadd hx hb dX4_openUp_36 ?_
        refine lv_topi (fun x_170 ex_170 => ?_)
        replace hF := hF.trans (ap_n ex_170)
        refine pp_i (v := x_170) (ty := .int) (C := RX4) (T := TX4) (N := 12) hx hb hts (tw_i inlX4) tyX4 tyX4_ok nmX4 hown hK hP hD hS hL_this hK_this (by decide +kernel) rfl 8 136 (by decide +kernel) (hts _ (tw_c tw_760)) rfl (tyX4_ok 8 (by decide +kernel)) rfl rfl (Nat.le_of_ble_eq_true rfl) (ps_136 _ _ _ _ _) dX4_openUp_37 (fun I_171 H locs eI_171 hP hD hS => ?_)
        replace hFr := fr_I (f := 136) hFr hO_this (by decide +kernel) eI_171
        replace hF := hF.trans (ap_n (vI_st (f := 136) hO_this (by decide +kernel) eI_171))
        have hG := GX.wI hG 136 rfl eI_171 (rg_w (rg_full _) (by decide +kernel)) (by decide +kernel)
        have tt_172 : (I_171 132 this).toInt = (I_113 132 this).toInt := by rw [eI_171, pq_uf _ _ _ (by decide +kernel)]
        have tt_173 : (I_171 134 this).toInt = (I_113 134 this).toInt := by rw [eI_171, pq_uf _ _ _ (by decide +kernel)]
        have tt_174 : (I_171 129 this).toInt = (I_113 129 this).toInt := by rw [eI_171, pq_uf _ _ _ (by decide +kernel)]
        refine lv_aload_n hx hb dX4_openUp_40 rfl (lv_at hl 0 rfl) ?_
        refine lv_iload_n hx hb dX4_openUp_41 rfl (lv_at hl 1 rfl) ?_
        refine lv_bipush (v := 11) hx hb dX4_openUp_42 (by decide +kernel) ?_
        refine lv_icmp_ne (tgt := 51) hx hb dX4_openUp_44 (by decide +kernel) (fun c_175 => ?_) (fun c_175 => ?_)
        · have tc_178 : (a0).toInt ≠ 11 := fun q => c_175 (Int32.toInt_inj.mp q)
          refine lv_iconst (v := 0) hx hb dX4_openUp_51 (by decide +kernel) ?_
          refine pp_i (v := 0) (ty := .boolean) (C := RX4) (T := TX4) (N := 12) hx hb hts (tw_i inlX4) tyX4 tyX4_ok nmX4 hown hK hP hD hS hL_this hK_this (by decide +kernel) rfl 9 137 (by decide +kernel) (hts _ (tw_c tw_761)) rfl (tyX4_ok 9 (by decide +kernel)) rfl (by decide +kernel) (Nat.le_of_ble_eq_true rfl) (ps_137 _ _ _ _ _) dX4_openUp_52 (fun I_179 H locs eI_179 hP hD hS => ?_)
          replace hFr := fr_I (f := 137) hFr hO_this (by decide +kernel) eI_179
          replace hF := hF.trans (ap_n (vI_st (f := 137) hO_this (by decide +kernel) eI_179))
          have hG := GX.wI hG 137 rfl eI_179 (rg_w (rg_k (0 : Int32) 0 rfl) (by decide +kernel)) (by decide +kernel)
          have tt_180 : (I_179 132 this).toInt = (I_171 132 this).toInt := by rw [eI_179, pq_uf _ _ _ (by decide +kernel)]
          have tt_181 : (I_179 134 this).toInt = (I_171 134 this).toInt := by rw [eI_179, pq_uf _ _ _ (by decide +kernel)]
          have tt_182 : (I_179 129 this).toInt = (I_171 129 this).toInt := by rw [eI_179, pq_uf _ _ _ (by decide +kernel)]
          refine lv_aload_n hx hb dX4_openUp_55 rfl (lv_at hl 0 rfl) ?_
          refine lv_iload_n hx hb dX4_openUp_56 rfl (lv_at hl 1 rfl) ?_
          refine pk_v (va_runV (As := [.int a0]) (rest := []) ⟨hx, hb, hml, hown, hts⟩ (s_X4_await l D t σ I_179 J ri rj rq H.size tg hSH hG.1 this a0 hL_this hK_this) (cwV 1 hts (tw_V tw_781 tw_782 tw_783 tw_25 tw_784) rfl rfl rfl cv_yX4_await_1 ⟨Nat.le_of_ble_eq_true rfl, Nat.le_of_ble_eq_true rfl⟩) ⟨pq_blind, pq_recv hK hP hL_this hK_this (by decide +kernel) rfl, pq_pre hK hN hP hD⟩ rfl rfl hl.1 rfl (lv_room (Nat.le_of_ble_eq_true rfl)) dX4_openUp_57 ⟨Nat.le_of_ble_eq_true rfl, Nat.le_of_ble_eq_true rfl⟩) hD hS hA (fun σ1 μ1 H locs hw_184 hP hD hS => ?_)
          obtain ⟨I_185, ri_186, hu_187, hg_188, hp_190, hp_191, hfn_192, hfr_193⟩ := hw_184
          obtain ⟨hu_187a, hu_187b⟩ := Prod.mk.inj hu_187
          rw [hu_187a, hu_187b] at hP hD
          replace hF := hF.trans (bv_n hfn_192)
          replace hFr := fr_tr hFr hfr_193
          have tt_194 := hp_190
          have tt_195 := hp_191
          have hG := GX.tr hG hg_188 (by decide +kernel)
          have tt_196 : (I_185 132 this).toInt = (I_179 132 this).toInt := by rw [hg_188.2.1 132 (by decide +kernel) (by decide +kernel)]
          have tt_197 : (I_185 129 this).toInt = (I_179 129 this).toInt := by rw [hg_188.2.1 129 (by decide +kernel) (by decide +kernel)]
          subst hQ
          exact W.vret hx hb hr (fun t1 ht hW => ⟨⟨(σ, I_185, J, ri_186, rj, rq), rfl, ⟨I_185, ri_186, rfl, hG, (by omega), (ft_t (fun _ _ => rfl) hp_191), (hF0.symm.trans hF), hFr⟩, by rw [ht]; exact hP, va_K.moved hW.alike hK, hD⟩, hS.F ht⟩) hS.2.2 dX4_openUp_60
        · have tc_198 : (a0).toInt = 11 := congrArg Int32.toInt c_175
          exact (rg_empty (rg_and h_168 (rg_of_eq c_175 (rg_k (11 : Int32) 11 rfl)) (lo := 29) (hi := 11) (by decide +kernel)) (by decide +kernel)).elim
  exact go _ _ _ hP hD hS hl

set_option maxRecDepth 100000 in
def g_X4_readOne (I : Nat → Int32) (J : Nat → Int64) (ri : Nat → Nat → Int32) (rj : Nat → Nat → Int64) (rq : Nat → Nat → Option Nat) : Int32 × vM := (ap1 (I 194) fun (y_1 : Int32) => (if (y_1) = (18 : Int32) then (ap1 (I 196) fun (y_172 : Int32) => (if (y_172) ≤ (9999 : Int32) then (bnV (g_X4_emit (y_172) I J ri rj rq) fun (I_182 : Nat → Int32) (_ : Nat → Int64) (ri_183 : Nat → Nat → Int32) (_ : Nat → Nat → Int64) (_ : Nat → Nat → Option Nat) => ((0 : Int32), I_182, J, ri_183, rj, rq)) else (bnV (g_X4_refuse (2 : Int32) I J ri rj rq) fun (I_201 : Nat → Int32) (_ : Nat → Int64) (_ : Nat → Nat → Int32) (_ : Nat → Nat → Int64) (_ : Nat → Nat → Option Nat) => (ap1 (I_201 196) fun (y_213 : Int32) => (bnV (g_X4_emit (y_213) I_201 J ri rj rq) fun (I_216 : Nat → Int32) (_ : Nat → Int64) (ri_217 : Nat → Nat → Int32) (_ : Nat → Nat → Int64) (_ : Nat → Nat → Option Nat) => ((0 : Int32), I_216, J, ri_217, rj, rq)))))) else (ap1 (g_X4_isName (y_1)) fun (x_7 : Int32) => (if x_7 = (0 : Int32) then (if (y_1) = (26 : Int32) then (bnV (g_X4_openUp (35 : Int32) I J ri rj rq) fun (I_38 : Nat → Int32) (_ : Nat → Int64) (ri_39 : Nat → Nat → Int32) (_ : Nat → Nat → Int64) (_ : Nat → Nat → Option Nat) => ((1 : Int32), I_38, J, ri_39, rj, rq)) else (if (y_1) = (29 : Int32) then (bnV (g_X4_openUp (y_1) I J ri rj rq) fun (I_65 : Nat → Int32) (_ : Nat → Int64) (ri_66 : Nat → Nat → Int32) (_ : Nat → Nat → Int64) (_ : Nat → Nat → Option Nat) => ((1 : Int32), I_65, J, ri_66, rj, rq)) else (if (y_1) = (11 : Int32) then (ap1 (I 137) fun (y_103 : Int32) => (if (y_103) = (0 : Int32) then (bnV (g_X4_refuse (1 : Int32) I J ri rj rq) fun (I_113 : Nat → Int32) (_ : Nat → Int64) (_ : Nat → Nat → Int32) (_ : Nat → Nat → Int64) (_ : Nat → Nat → Option Nat) => ((1 : Int32), I_113, J, ri, rj, rq)) else (bnV (g_X4_openUp (y_1) I J ri rj rq) fun (I_133 : Nat → Int32) (_ : Nat → Int64) (ri_134 : Nat → Nat → Int32) (_ : Nat → Nat → Int64) (_ : Nat → Nat → Option Nat) => ((1 : Int32), I_133, J, ri_134, rj, rq)))) else (bnV (g_X4_refuse (1 : Int32) I J ri rj rq) fun (I_88 : Nat → Int32) (_ : Nat → Int64) (_ : Nat → Nat → Int32) (_ : Nat → Nat → Int64) (_ : Nat → Nat → Option Nat) => ((1 : Int32), I_88, J, ri, rj, rq))))) else (ap1 (-(y_1)) fun (x_151 : Int32) => (bnV (g_X4_emit x_151 I J ri rj rq) fun (I_155 : Nat → Int32) (_ : Nat → Int64) (ri_156 : Nat → Nat → Int32) (_ : Nat → Nat → Int64) (_ : Nat → Nat → Option Nat) => ((0 : Int32), I_155, J, ri_156, rj, rq)))))))
set_option maxRecDepth 100000 in
theorem g_X4_readOne_e {I : Nat → Int32} {J : Nat → Int64} {ri : Nat → Nat → Int32} {rj : Nat → Nat → Int64} {rq : Nat → Nat → Option Nat} : g_X4_readOne I J ri rj rq = (ap1 (I 194) fun (y_1 : Int32) => (if (y_1) = (18 : Int32) then (ap1 (I 196) fun (y_172 : Int32) => (if (y_172) ≤ (9999 : Int32) then (bnV (g_X4_emit (y_172) I J ri rj rq) fun (I_182 : Nat → Int32) (_ : Nat → Int64) (ri_183 : Nat → Nat → Int32) (_ : Nat → Nat → Int64) (_ : Nat → Nat → Option Nat) => ((0 : Int32), I_182, J, ri_183, rj, rq)) else (bnV (g_X4_refuse (2 : Int32) I J ri rj rq) fun (I_201 : Nat → Int32) (_ : Nat → Int64) (_ : Nat → Nat → Int32) (_ : Nat → Nat → Int64) (_ : Nat → Nat → Option Nat) => (ap1 (I_201 196) fun (y_213 : Int32) => (bnV (g_X4_emit (y_213) I_201 J ri rj rq) fun (I_216 : Nat → Int32) (_ : Nat → Int64) (ri_217 : Nat → Nat → Int32) (_ : Nat → Nat → Int64) (_ : Nat → Nat → Option Nat) => ((0 : Int32), I_216, J, ri_217, rj, rq)))))) else (ap1 (g_X4_isName (y_1)) fun (x_7 : Int32) => (if x_7 = (0 : Int32) then (if (y_1) = (26 : Int32) then (bnV (g_X4_openUp (35 : Int32) I J ri rj rq) fun (I_38 : Nat → Int32) (_ : Nat → Int64) (ri_39 : Nat → Nat → Int32) (_ : Nat → Nat → Int64) (_ : Nat → Nat → Option Nat) => ((1 : Int32), I_38, J, ri_39, rj, rq)) else (if (y_1) = (29 : Int32) then (bnV (g_X4_openUp (y_1) I J ri rj rq) fun (I_65 : Nat → Int32) (_ : Nat → Int64) (ri_66 : Nat → Nat → Int32) (_ : Nat → Nat → Int64) (_ : Nat → Nat → Option Nat) => ((1 : Int32), I_65, J, ri_66, rj, rq)) else (if (y_1) = (11 : Int32) then (ap1 (I 137) fun (y_103 : Int32) => (if (y_103) = (0 : Int32) then (bnV (g_X4_refuse (1 : Int32) I J ri rj rq) fun (I_113 : Nat → Int32) (_ : Nat → Int64) (_ : Nat → Nat → Int32) (_ : Nat → Nat → Int64) (_ : Nat → Nat → Option Nat) => ((1 : Int32), I_113, J, ri, rj, rq)) else (bnV (g_X4_openUp (y_1) I J ri rj rq) fun (I_133 : Nat → Int32) (_ : Nat → Int64) (ri_134 : Nat → Nat → Int32) (_ : Nat → Nat → Int64) (_ : Nat → Nat → Option Nat) => ((1 : Int32), I_133, J, ri_134, rj, rq)))) else (bnV (g_X4_refuse (1 : Int32) I J ri rj rq) fun (I_88 : Nat → Int32) (_ : Nat → Int64) (_ : Nat → Nat → Int32) (_ : Nat → Nat → Int64) (_ : Nat → Nat → Option Nat) => ((1 : Int32), I_88, J, ri, rj, rq))))) else (ap1 (-(y_1)) fun (x_151 : Int32) => (bnV (g_X4_emit x_151 I J ri rj rq) fun (I_155 : Nat → Int32) (_ : Nat → Int64) (ri_156 : Nat → Nat → Int32) (_ : Nat → Nat → Int64) (_ : Nat → Nat → Option Nat) => ((0 : Int32), I_155, J, ri_156, rj, rq))))))) := rfl
set_option maxHeartbeats 4000000 in
set_option maxRecDepth 100000 in
theorem s_X4_readOne (l : Launch) (D : va_G) (t : pq_T) (σ : pq_S) (I : Nat → Nat → Int32) (J : Nat → Nat → Int64) (ri : Nat → Nat → Int32) (rj : Nat → Nat → Int64) (rq : Nat → Nat → Option Nat) (sz : Nat) (tg : Nat → Nat) (hSH : SH σ tg) (hG0 : GS tg σ I ri rq) (this : Nat) (hL_this : this ∈ σ.1) (hK_this : σ.2.1 this = 4) (this_scanner : Nat) (hR_this_scanner : σ.2.2.1 128 this = some this_scanner) (hL_this_scanner : this_scanner ∈ σ.1) (hK_this_scanner : σ.2.1 this_scanner = 6) : MetI l yX4_readOne (wa yX4_readOne cX4_readOne 2 (some .boolean)) ({ frames := 2, cells := 0, slots := 0, locals := 42 }) [.ref this] D t σ (I, J, ri, rj, rq) sz 0 0 (fun (r : Int32) (u : pq_S × pq_M) => ∃ I' : Nat → Nat → Int32, ∃ ri' : Nat → Nat → Int32, u = (σ, I', J, ri', rj, rq) ∧ GX [134, 129, 132] tg σ I ri rj I' ri' rj rq ∧ ((I' 132 this).toInt + (I' 134 this).toInt ≤ (I 132 this).toInt + (I 134 this).toInt + 1 ∧ ((I 194 this_scanner).toInt = 33 → (I' 132 this).toInt + (I' 134 this).toInt ≤ (I 132 this).toInt + (I 134 this).toInt)) ∧ (∀ q, tg q = 258 → ri' q = ri q) ∧ g_X4_readOne (vI 4 σ this I) (vJ 4 σ this J) (vR 4 σ this ri) (vL 4 σ this rj) (vQ 4 σ this rq) = (r, (vI 4 σ this I'), (vJ 4 σ this J), (vR 4 σ this ri'), (vL 4 σ this rj), (vQ 4 σ this rq)) ∧ FR 4 tg σ this (I, J, ri, rj, rq) (I', J, ri', rj, rq) ∧ ((r = 1 ∧ True) ∨ (r = 0 ∧ True))) := by
  refine Met.ofW (cc := cX4_readOne) (maxL := 2) (ret := (some .boolean)) (by decide +kernel) rfl ?_
  intro p e s m args below meth c s₁ B hml hv
  obtain ⟨rfl, hsz, hP, hK, hD0, hN⟩ := hv
  have hx := B.exec
  have hb := B.bytes
  have hr := B.returns
  have hts := atoms_spec (ws := (wa yX4_readOne cX4_readOne 2 (some .boolean))) B.pre
  have hown : s.vm.findClass RX4 = some m.cls := findClass_of_methodNamed B.named
  have hlocks := B.notSynchronized
  subst hsz
  have hD : va_D (pq_B t σ (I, J, ri, rj, rq) s.heap.size) (pq_P t σ (I, J, ri, rj, rq)) := hD0.self
  generalize hAe : pq_B t σ (I, J, ri, rj, rq) s.heap.size = A at hD ⊢
  have hA : ∀ q : Nat, s.heap.size ≤ q → A q := fun q h => by rw [← hAe]; exact Or.inr h
  have hS : va_S A s.heap s.heap [] := va_S.rf
  have hG : GX [134, 129, 132] tg σ I ri rj I ri rj rq := ⟨hG0, fun _ _ _ => rfl, fun _ _ _ _ _ => rfl, fun _ _ _ _ _ => rfl⟩
  have hl := lv_entry ([.ref this]) (n := 2) (Nat.le_of_ble_eq_true rfl)
  rw [lg_entry_eq]
  generalize (lg_sl ([.ref this]) ++ List.replicate (2 - (lg_sl ([.ref this])).length) Slot.unset).toArray = ls at hl ⊢
  have hl : lv_has ls 2 [(0, .ref this)] := hl
  refine q_gen (fun Q hQ => ?_)
  have go : ∀ (H : Heap) (locs : List Loc) (ls : Array Slot), va_P D vwCl (pq_P t σ (I, J, ri, rj, rq)) H → va_D A (pq_P t σ (I, J, ri, rj, rq)) → va_S A s.heap H locs → lv_has ls 2 [(0, .ref this)] → W p l e ({ frames := 2, cells := 0, slots := 0, locals := 42 } : Room) s m (List.toArray ([.ref this] : List Value)) below meth c H locs 0 0 Q (F0 m 0 ls []) := by
    intro H locs ls hP hD hS hl
    have hO_this : this = vo σ 4 this := rfl
    have hVT : VT 4 σ tg this := vt_4 hSH hL_this hK_this
    have hFr : FR 4 tg σ this (I, J, ri, rj, rq) (I, J, ri, rj, rq) := fr_rf
    have hO_this_scanner : this_scanner = vo σ 6 this := vo_k (c := 4) hO_this hR_this_scanner
    obtain ⟨F, hF0⟩ : ∃ F, F = g_X4_readOne (vI 4 σ this I) (vJ 4 σ this J) (vR 4 σ this ri) (vL 4 σ this rj) (vQ 4 σ this rq) := ⟨_, rfl⟩
    have hF := hF0.trans g_X4_readOne_e
    refine lv_aload_n hx hb dX4_readOne_0 rfl (lv_at hl 0 rfl) ?_
    refine pg_f (v := .ref this_scanner) (C := RX4) (T := TX4) (N := 12) hx hb hts (tw_i inlX4) hown hK hP hL_this hK_this (by decide +kernel) rfl 0 (by decide +kernel) (hts _ (tw_c tw_154)) (pq_hv rfl hR_this_scanner) dX4_readOne_1 ?_
    refine pg_f (v := .int (I 194 this_scanner)) (C := RX6) (T := TX6) (N := 6) hx hb hts (tw_i inlX6) hown hK hP hL_this_scanner hK_this_scanner (by decide +kernel) rfl 2 (by decide +kernel) (hts _ (tw_c tw_657)) rfl dX4_readOne_4 ?_
    replace hF := hF.trans (ap_n (vI_e (f := 194) hO_this_scanner (by decide +kernel)))
    refine lv_istore_n (lv' := [(1, .int (I 194 this_scanner)), (0, .ref this)]) hx hb dX4_readOne_7 rfl hl (by decide +kernel) rfl (fun ls hl => ?_)
    refine lv_iload_n hx hb dX4_readOne_8 rfl (lv_at hl 0 rfl) ?_
    refine lv_bipush (v := 18) hx hb dX4_readOne_9 (by decide +kernel) ?_
    refine lv_icmp_ne (tgt := 45) hx hb dX4_readOne_11 (by decide +kernel) (fun c_2 => ?_) (fun c_2 => ?_)
    · replace hF := hF.trans (if_neg c_2)
      have tc_6 : (I 194 this_scanner).toInt ≠ 18 := fun q => c_2 (Int32.toInt_inj.mp q)
      refine lv_iload_n hx hb dX4_readOne_45 rfl (lv_at hl 0 rfl) ?_
      refine pk_i (va_runS (As := [.int (I 194 this_scanner)]) (rest := []) ⟨hx, hb, hml, hown, hts⟩ (s_X4_isName l D t σ I J ri rj rq H.size tg hSH hG.1 (I 194 this_scanner)) (va_cwS 1 hts (tw_S tw_774 tw_775 tw_25 tw_776) rfl rfl rfl cd_yX4_isName_1 ⟨Nat.le_of_ble_eq_true rfl, Nat.le_of_ble_eq_true rfl⟩) ⟨pq_blind, pq_pre hK hN hP hD⟩ rfl rfl hl.1 rfl (lv_room (Nat.le_of_ble_eq_true rfl)) dX4_readOne_46 ⟨Nat.le_of_ble_eq_true rfl, Nat.le_of_ble_eq_true rfl⟩) hD hS hA (fun x_7 σ1 μ1 H locs hw_8 hP hD hS => ?_)
      obtain ⟨hu_9, hfn_12, hr_11⟩ := hw_8
      obtain ⟨hu_9a, hu_9b⟩ := Prod.mk.inj hu_9
      rw [hu_9a, hu_9b] at hP hD
      replace hF := hF.trans (ap_n hfn_12.symm)
      have h_14 : rg x_7 0 1 := by rcases hr_11 with ⟨q, -⟩ | ⟨q, -⟩ <;> rw [q] <;> exact ⟨by decide +kernel, by decide +kernel⟩
      have uh_14 := h_14.1
      have vh_14 := h_14.2
      refine lv_if_eq (tgt := 60) hx hb dX4_readOne_49 (by decide +kernel) (fun c_15 => ?_) (fun c_15 => ?_)
      · replace hF := hF.trans (if_pos c_15)
        have f_22 := (hr_11.resolve_left (fun q => absurd (q.1.symm.trans c_15) (by decide +kernel))).2
        have tc_23 : (x_7).toInt = 0 := congrArg Int32.toInt c_15
        have h_24 : rg x_7 0 0 := rg_and h_14 (rg_of_eq c_15 (rg_k (0 : Int32) 0 rfl)) (by decide +kernel)
        have uh_24 := h_24.1
        have vh_24 := h_24.2
        refine lv_iload_n hx hb dX4_readOne_60 rfl (lv_at hl 0 rfl) ?_
        refine lv_bipush (v := 26) hx hb dX4_readOne_61 (by decide +kernel) ?_
        refine lv_icmp_eq (tgt := 85) hx hb dX4_readOne_63 (by decide +kernel) (fun c_25 => ?_) (fun c_25 => ?_)
        · replace hF := hF.trans (if_pos c_25)
          have tc_29 : (I 194 this_scanner).toInt = 26 := congrArg Int32.toInt c_25
          have h_30 : rg (I 194 this_scanner) 26 26 := rg_and (rg_full _) (rg_of_eq c_25 (rg_k (26 : Int32) 26 rfl)) (by decide +kernel)
          have uh_30 := h_30.1
          have vh_30 := h_30.2
          refine lv_aload_n hx hb dX4_readOne_85 rfl (lv_at hl 1 rfl) ?_
          refine lv_iload_n hx hb dX4_readOne_86 rfl (lv_at hl 0 rfl) ?_
          refine lv_bipush (v := 26) hx hb dX4_readOne_87 (by decide +kernel) ?_
          refine lv_icmp_ne (tgt := 97) hx hb dX4_readOne_89 (by decide +kernel) (fun c_31 => ?_) (fun c_31 => ?_)
          · have tc_34 : (I 194 this_scanner).toInt ≠ 26 := fun q => c_31 (Int32.toInt_inj.mp q)
            exact (rg_empty (rg_ne c_31 h_30 26 rfl (lo := 27) (hi := 25) (by decide +kernel)) (by decide +kernel)).elim
          · have tc_35 : (I 194 this_scanner).toInt = 26 := congrArg Int32.toInt c_31
            refine lv_bipush (v := 35) hx hb dX4_readOne_92 (by decide +kernel) ?_
            refine lv_goto (tgt := 98) hx hb dX4_readOne_94 (by decide +kernel) ?_
            refine pk_v (va_runV (As := [.int 35]) (rest := []) ⟨hx, hb, hml, hown, hts⟩ (s_X4_openUp l D t σ I J ri rj rq H.size tg hSH hG.1 this (35 : Int32) hL_this hK_this) (cwV 1 hts (tw_V tw_777 tw_778 tw_779 tw_25 tw_780) rfl rfl rfl cv_yX4_openUp_1 ⟨Nat.le_of_ble_eq_true rfl, Nat.le_of_ble_eq_true rfl⟩) ⟨pq_blind, pq_recv hK hP hL_this hK_this (by decide +kernel) rfl, pq_pre hK hN hP hD⟩ rfl rfl hl.1 rfl (lv_room (Nat.le_of_ble_eq_true rfl)) dX4_readOne_98 ⟨Nat.le_of_ble_eq_true rfl, Nat.le_of_ble_eq_true rfl⟩) hD hS hA (fun σ1 μ1 H locs hw_37 hP hD hS => ?_)
            obtain ⟨I_38, ri_39, hu_40, hg_41, hp_43, hp_44, hfn_45, hfr_46⟩ := hw_37
            obtain ⟨hu_40a, hu_40b⟩ := Prod.mk.inj hu_40
            rw [hu_40a, hu_40b] at hP hD
            replace hF := hF.trans (bv_n hfn_45)
            replace hFr := fr_tr hFr hfr_46
            have tt_47 := hp_43
            have tt_48 := hp_44
            have hG := GX.tr hG hg_41 (by decide +kernel)
            have tt_49 : (I_38 132 this).toInt = (I 132 this).toInt := by rw [hg_41.2.1 132 (by decide +kernel) (by decide +kernel)]
            have tt_50 : (I_38 197 this_scanner).toInt = (I 197 this_scanner).toInt := by rw [hg_41.2.1 197 (by decide +kernel) (by decide +kernel)]
            have tt_51 : (I_38 194 this_scanner).toInt = (I 194 this_scanner).toInt := by rw [hg_41.2.1 194 (by decide +kernel) (by decide +kernel)]
            refine lv_goto (tgt := 109) hx hb dX4_readOne_101 (by decide +kernel) ?_
            refine lv_iconst (v := 1) hx hb dX4_readOne_109 (by decide +kernel) ?_
            subst hQ
            exact W.zret (v := 1) hx hb hr (by decide +kernel) (fun t1 ht hW => ⟨⟨1, (σ, I_38, J, ri_39, rj, rq), rfl, ⟨I_38, ri_39, rfl, hG, (by omega), (ft_t (fun _ _ => rfl) hp_44), (hF0.symm.trans hF), hFr, (Or.inl ⟨rfl, trivial⟩)⟩, by rw [ht]; exact hP, va_K.moved hW.alike hK, hD⟩, hS.F ht⟩) hS.2.2 dX4_readOne_110
        · replace hF := hF.trans (if_neg c_25)
          have tc_52 : (I 194 this_scanner).toInt ≠ 26 := fun q => c_25 (Int32.toInt_inj.mp q)
          refine lv_iload_n hx hb dX4_readOne_66 rfl (lv_at hl 0 rfl) ?_
          refine lv_bipush (v := 29) hx hb dX4_readOne_67 (by decide +kernel) ?_
          refine lv_icmp_eq (tgt := 85) hx hb dX4_readOne_69 (by decide +kernel) (fun c_53 => ?_) (fun c_53 => ?_)
          · replace hF := hF.trans (if_pos c_53)
            have tc_57 : (I 194 this_scanner).toInt = 29 := congrArg Int32.toInt c_53
            have h_58 : rg (I 194 this_scanner) 29 29 := rg_and (rg_full _) (rg_of_eq c_53 (rg_k (29 : Int32) 29 rfl)) (by decide +kernel)
            have uh_58 := h_58.1
            have vh_58 := h_58.2
            refine lv_aload_n hx hb dX4_readOne_85 rfl (lv_at hl 1 rfl) ?_
            refine lv_iload_n hx hb dX4_readOne_86 rfl (lv_at hl 0 rfl) ?_
            refine lv_bipush (v := 26) hx hb dX4_readOne_87 (by decide +kernel) ?_
            refine lv_icmp_ne (tgt := 97) hx hb dX4_readOne_89 (by decide +kernel) (fun c_59 => ?_) (fun c_59 => ?_)
            · have tc_62 : (I 194 this_scanner).toInt ≠ 26 := fun q => c_59 (Int32.toInt_inj.mp q)
              refine lv_iload_n hx hb dX4_readOne_97 rfl (lv_at hl 0 rfl) ?_
              refine pk_v (va_runV (As := [.int (I 194 this_scanner)]) (rest := []) ⟨hx, hb, hml, hown, hts⟩ (s_X4_openUp l D t σ I J ri rj rq H.size tg hSH hG.1 this (I 194 this_scanner) hL_this hK_this) (cwV 1 hts (tw_V tw_777 tw_778 tw_779 tw_25 tw_780) rfl rfl rfl cv_yX4_openUp_1 ⟨Nat.le_of_ble_eq_true rfl, Nat.le_of_ble_eq_true rfl⟩) ⟨pq_blind, pq_recv hK hP hL_this hK_this (by decide +kernel) rfl, pq_pre hK hN hP hD⟩ rfl rfl hl.1 rfl (lv_room (Nat.le_of_ble_eq_true rfl)) dX4_readOne_98 ⟨Nat.le_of_ble_eq_true rfl, Nat.le_of_ble_eq_true rfl⟩) hD hS hA (fun σ1 μ1 H locs hw_64 hP hD hS => ?_)
              obtain ⟨I_65, ri_66, hu_67, hg_68, hp_70, hp_71, hfn_72, hfr_73⟩ := hw_64
              obtain ⟨hu_67a, hu_67b⟩ := Prod.mk.inj hu_67
              rw [hu_67a, hu_67b] at hP hD
              replace hF := hF.trans (bv_n hfn_72)
              replace hFr := fr_tr hFr hfr_73
              have tt_74 := hp_70
              have tt_75 := hp_71
              have hG := GX.tr hG hg_68 (by decide +kernel)
              have tt_76 : (I_65 132 this).toInt = (I 132 this).toInt := by rw [hg_68.2.1 132 (by decide +kernel) (by decide +kernel)]
              have tt_77 : (I_65 197 this_scanner).toInt = (I 197 this_scanner).toInt := by rw [hg_68.2.1 197 (by decide +kernel) (by decide +kernel)]
              have tt_78 : (I_65 194 this_scanner).toInt = (I 194 this_scanner).toInt := by rw [hg_68.2.1 194 (by decide +kernel) (by decide +kernel)]
              refine lv_goto (tgt := 109) hx hb dX4_readOne_101 (by decide +kernel) ?_
              refine lv_iconst (v := 1) hx hb dX4_readOne_109 (by decide +kernel) ?_
              subst hQ
              exact W.zret (v := 1) hx hb hr (by decide +kernel) (fun t1 ht hW => ⟨⟨1, (σ, I_65, J, ri_66, rj, rq), rfl, ⟨I_65, ri_66, rfl, hG, (by omega), (ft_t (fun _ _ => rfl) hp_71), (hF0.symm.trans hF), hFr, (Or.inl ⟨rfl, trivial⟩)⟩, by rw [ht]; exact hP, va_K.moved hW.alike hK, hD⟩, hS.F ht⟩) hS.2.2 dX4_readOne_110
            · have tc_79 : (I 194 this_scanner).toInt = 26 := congrArg Int32.toInt c_59
              exact (rg_empty (rg_and h_58 (rg_of_eq c_59 (rg_k (26 : Int32) 26 rfl)) (lo := 29) (hi := 26) (by decide +kernel)) (by decide +kernel)).elim
          · replace hF := hF.trans (if_neg c_53)
            have tc_80 : (I 194 this_scanner).toInt ≠ 29 := fun q => c_53 (Int32.toInt_inj.mp q)
            refine lv_iload_n hx hb dX4_readOne_72 rfl (lv_at hl 0 rfl) ?_
            refine lv_bipush (v := 11) hx hb dX4_readOne_73 (by decide +kernel) ?_
            refine lv_icmp_ne (tgt := 104) hx hb dX4_readOne_75 (by decide +kernel) (fun c_81 => ?_) (fun c_81 => ?_)
            · replace hF := hF.trans (if_neg c_81)
              have tc_85 : (I 194 this_scanner).toInt ≠ 11 := fun q => c_81 (Int32.toInt_inj.mp q)
              refine lv_aload_n hx hb dX4_readOne_104 rfl (lv_at hl 1 rfl) ?_
              refine lv_iconst (v := 1) hx hb dX4_readOne_105 (by decide +kernel) ?_
              refine pk_v (va_runV (As := [.int 1]) (rest := []) ⟨hx, hb, hml, hown, hts⟩ (s_X4_refuse l D t σ I J ri rj rq H.size tg hSH hG.1 this (1 : Int32) hL_this hK_this (rg_w (rg_k (1 : Int32) 1 rfl) (by decide +kernel))) (cwV 1 hts (tw_V tw_748 tw_749 tw_750 tw_25 tw_751) rfl rfl rfl cv_yX4_refuse_1 ⟨Nat.le_of_ble_eq_true rfl, Nat.le_of_ble_eq_true rfl⟩) ⟨pq_blind, pq_recv hK hP hL_this hK_this (by decide +kernel) rfl, pq_pre hK hN hP hD⟩ rfl rfl hl.1 rfl (lv_room (Nat.le_of_ble_eq_true rfl)) dX4_readOne_106 ⟨Nat.le_of_ble_eq_true rfl, Nat.le_of_ble_eq_true rfl⟩) hD hS hA (fun σ1 μ1 H locs hw_87 hP hD hS => ?_)
              obtain ⟨I_88, hu_89, hg_90, hp_92, hfn_93, hfr_94⟩ := hw_87
              obtain ⟨hu_89a, hu_89b⟩ := Prod.mk.inj hu_89
              rw [hu_89a, hu_89b] at hP hD
              replace hF := hF.trans (bv_n hfn_93)
              replace hFr := fr_tr hFr hfr_94
              have tt_95 := hp_92
              have hG := GX.tr hG hg_90 (by decide +kernel)
              have tt_96 : (I_88 132 this).toInt = (I 132 this).toInt := by rw [hg_90.2.1 132 (by decide +kernel) (by decide +kernel)]
              have tt_97 : (I_88 134 this).toInt = (I 134 this).toInt := by rw [hg_90.2.1 134 (by decide +kernel) (by decide +kernel)]
              have tt_98 : (I_88 197 this_scanner).toInt = (I 197 this_scanner).toInt := by rw [hg_90.2.1 197 (by decide +kernel) (by decide +kernel)]
              have tt_99 : (I_88 194 this_scanner).toInt = (I 194 this_scanner).toInt := by rw [hg_90.2.1 194 (by decide +kernel) (by decide +kernel)]
              refine lv_iconst (v := 1) hx hb dX4_readOne_109 (by decide +kernel) ?_
              subst hQ
              exact W.zret (v := 1) hx hb hr (by decide +kernel) (fun t1 ht hW => ⟨⟨1, (σ, I_88, J, ri, rj, rq), rfl, ⟨I_88, ri, rfl, hG, (by omega), (fun _ _ => rfl), (hF0.symm.trans hF), hFr, (Or.inl ⟨rfl, trivial⟩)⟩, by rw [ht]; exact hP, va_K.moved hW.alike hK, hD⟩, hS.F ht⟩) hS.2.2 dX4_readOne_110
            · replace hF := hF.trans (if_pos c_81)
              have tc_100 : (I 194 this_scanner).toInt = 11 := congrArg Int32.toInt c_81
              have h_101 : rg (I 194 this_scanner) 11 11 := rg_and (rg_full _) (rg_of_eq c_81 (rg_k (11 : Int32) 11 rfl)) (by decide +kernel)
              have uh_101 := h_101.1
              have vh_101 := h_101.2
              refine lv_aload_n hx hb dX4_readOne_78 rfl (lv_at hl 1 rfl) ?_
              refine pg_f (v := .int (I 137 this)) (C := RX4) (T := TX4) (N := 12) hx hb hts (tw_i inlX4) hown hK hP hL_this hK_this (by decide +kernel) rfl 9 (by decide +kernel) (hts _ (tw_c tw_761)) rfl dX4_readOne_79 ?_
              have h_102 : rg (I 137 this) 0 1 := GX.rI hG 137 rfl
              have uh_102 := h_102.1
              have vh_102 := h_102.2
              replace hF := hF.trans (ap_n (vI_e (f := 137) hO_this (by decide +kernel)))
              refine lv_if_eq (tgt := 104) hx hb dX4_readOne_82 (by decide +kernel) (fun c_104 => ?_) (fun c_104 => ?_)
              · replace hF := hF.trans (if_pos c_104)
                have tc_109 : (I 137 this).toInt = 0 := congrArg Int32.toInt c_104
                have h_110 : rg (I 137 this) 0 0 := rg_and h_102 (rg_of_eq c_104 (rg_k (0 : Int32) 0 rfl)) (by decide +kernel)
                have uh_110 := h_110.1
                have vh_110 := h_110.2
                refine lv_aload_n hx hb dX4_readOne_104 rfl (lv_at hl 1 rfl) ?_
                refine lv_iconst (v := 1) hx hb dX4_readOne_105 (by decide +kernel) ?_
                refine pk_v (va_runV (As := [.int 1]) (rest := []) ⟨hx, hb, hml, hown, hts⟩ (s_X4_refuse l D t σ I J ri rj rq H.size tg hSH hG.1 this (1 : Int32) hL_this hK_this (rg_w (rg_k (1 : Int32) 1 rfl) (by decide +kernel))) (cwV 1 hts (tw_V tw_748 tw_749 tw_750 tw_25 tw_751) rfl rfl rfl cv_yX4_refuse_1 ⟨Nat.le_of_ble_eq_true rfl, Nat.le_of_ble_eq_true rfl⟩) ⟨pq_blind, pq_recv hK hP hL_this hK_this (by decide +kernel) rfl, pq_pre hK hN hP hD⟩ rfl rfl hl.1 rfl (lv_room (Nat.le_of_ble_eq_true rfl)) dX4_readOne_106 ⟨Nat.le_of_ble_eq_true rfl, Nat.le_of_ble_eq_true rfl⟩) hD hS hA (fun σ1 μ1 H locs hw_112 hP hD hS => ?_)
                obtain ⟨I_113, hu_114, hg_115, hp_117, hfn_118, hfr_119⟩ := hw_112
                obtain ⟨hu_114a, hu_114b⟩ := Prod.mk.inj hu_114
                rw [hu_114a, hu_114b] at hP hD
                replace hF := hF.trans (bv_n hfn_118)
                replace hFr := fr_tr hFr hfr_119
                have tt_120 := hp_117
                have hG := GX.tr hG hg_115 (by decide +kernel)
                have tt_121 : (I_113 132 this).toInt = (I 132 this).toInt := by rw [hg_115.2.1 132 (by decide +kernel) (by decide +kernel)]
                have tt_122 : (I_113 134 this).toInt = (I 134 this).toInt := by rw [hg_115.2.1 134 (by decide +kernel) (by decide +kernel)]
                have tt_123 : (I_113 197 this_scanner).toInt = (I 197 this_scanner).toInt := by rw [hg_115.2.1 197 (by decide +kernel) (by decide +kernel)]
                have tt_124 : (I_113 194 this_scanner).toInt = (I 194 this_scanner).toInt := by rw [hg_115.2.1 194 (by decide +kernel) (by decide +kernel)]
                refine lv_iconst (v := 1) hx hb dX4_readOne_109 (by decide +kernel) ?_
                subst hQ
                exact W.zret (v := 1) hx hb hr (by decide +kernel) (fun t1 ht hW => ⟨⟨1, (σ, I_113, J, ri, rj, rq), rfl, ⟨I_113, ri, rfl, hG, (by omega), (fun _ _ => rfl), (hF0.symm.trans hF), hFr, (Or.inl ⟨rfl, trivial⟩)⟩, by rw [ht]; exact hP, va_K.moved hW.alike hK, hD⟩, hS.F ht⟩) hS.2.2 dX4_readOne_110
              · replace hF := hF.trans (if_neg c_104)
                have tc_125 : (I 137 this).toInt ≠ 0 := fun q => c_104 (Int32.toInt_inj.mp q)
                have h_126 : rg (I 137 this) 1 1 := rg_ne c_104 h_102 0 rfl (by decide +kernel)
                have uh_126 := h_126.1
                have vh_126 := h_126.2
                refine lv_aload_n hx hb dX4_readOne_85 rfl (lv_at hl 1 rfl) ?_
                refine lv_iload_n hx hb dX4_readOne_86 rfl (lv_at hl 0 rfl) ?_
                refine lv_bipush (v := 26) hx hb dX4_readOne_87 (by decide +kernel) ?_
                refine lv_icmp_ne (tgt := 97) hx hb dX4_readOne_89 (by decide +kernel) (fun c_127 => ?_) (fun c_127 => ?_)
                · have tc_130 : (I 194 this_scanner).toInt ≠ 26 := fun q => c_127 (Int32.toInt_inj.mp q)
                  refine lv_iload_n hx hb dX4_readOne_97 rfl (lv_at hl 0 rfl) ?_
                  refine pk_v (va_runV (As := [.int (I 194 this_scanner)]) (rest := []) ⟨hx, hb, hml, hown, hts⟩ (s_X4_openUp l D t σ I J ri rj rq H.size tg hSH hG.1 this (I 194 this_scanner) hL_this hK_this) (cwV 1 hts (tw_V tw_777 tw_778 tw_779 tw_25 tw_780) rfl rfl rfl cv_yX4_openUp_1 ⟨Nat.le_of_ble_eq_true rfl, Nat.le_of_ble_eq_true rfl⟩) ⟨pq_blind, pq_recv hK hP hL_this hK_this (by decide +kernel) rfl, pq_pre hK hN hP hD⟩ rfl rfl hl.1 rfl (lv_room (Nat.le_of_ble_eq_true rfl)) dX4_readOne_98 ⟨Nat.le_of_ble_eq_true rfl, Nat.le_of_ble_eq_true rfl⟩) hD hS hA (fun σ1 μ1 H locs hw_132 hP hD hS => ?_)
                  obtain ⟨I_133, ri_134, hu_135, hg_136, hp_138, hp_139, hfn_140, hfr_141⟩ := hw_132
                  obtain ⟨hu_135a, hu_135b⟩ := Prod.mk.inj hu_135
                  rw [hu_135a, hu_135b] at hP hD
                  replace hF := hF.trans (bv_n hfn_140)
                  replace hFr := fr_tr hFr hfr_141
                  have tt_142 := hp_138
                  have tt_143 := hp_139
                  have hG := GX.tr hG hg_136 (by decide +kernel)
                  have tt_144 : (I_133 132 this).toInt = (I 132 this).toInt := by rw [hg_136.2.1 132 (by decide +kernel) (by decide +kernel)]
                  have tt_145 : (I_133 197 this_scanner).toInt = (I 197 this_scanner).toInt := by rw [hg_136.2.1 197 (by decide +kernel) (by decide +kernel)]
                  have tt_146 : (I_133 194 this_scanner).toInt = (I 194 this_scanner).toInt := by rw [hg_136.2.1 194 (by decide +kernel) (by decide +kernel)]
                  refine lv_goto (tgt := 109) hx hb dX4_readOne_101 (by decide +kernel) ?_
                  refine lv_iconst (v := 1) hx hb dX4_readOne_109 (by decide +kernel) ?_
                  subst hQ
                  exact W.zret (v := 1) hx hb hr (by decide +kernel) (fun t1 ht hW => ⟨⟨1, (σ, I_133, J, ri_134, rj, rq), rfl, ⟨I_133, ri_134, rfl, hG, (by omega), (ft_t (fun _ _ => rfl) hp_139), (hF0.symm.trans hF), hFr, (Or.inl ⟨rfl, trivial⟩)⟩, by rw [ht]; exact hP, va_K.moved hW.alike hK, hD⟩, hS.F ht⟩) hS.2.2 dX4_readOne_110
                · have tc_147 : (I 194 this_scanner).toInt = 26 := congrArg Int32.toInt c_127
                  exact (rg_empty (rg_and h_101 (rg_of_eq c_127 (rg_k (26 : Int32) 26 rfl)) (lo := 26) (hi := 11) (by decide +kernel)) (by decide +kernel)).elim
      · replace hF := hF.trans (if_neg c_15)
        have f_148 := (hr_11.resolve_right (fun q => c_15 q.1)).2
        have uf_148 := f_148.1
        have vf_148 := f_148.2
        have tc_149 : (x_7).toInt ≠ 0 := fun q => c_15 (Int32.toInt_inj.mp q)
        have h_150 : rg x_7 1 1 := rg_ne c_15 h_14 0 rfl (by decide +kernel)
        have uh_150 := h_150.1
        have vh_150 := h_150.2
        refine lv_aload_n hx hb dX4_readOne_52 rfl (lv_at hl 1 rfl) ?_
        refine lv_iload_n hx hb dX4_readOne_53 rfl (lv_at hl 0 rfl) ?_
        refine lv_ineg hx hb dX4_readOne_54 ?_
        refine lv_topi (fun x_151 ex_151 => ?_)
        replace hF := hF.trans (ap_n ex_151)
        have h_152 : rg x_151 (-17) (-12) := rg_of_eq ex_151 (rg_neg f_148 (by decide +kernel))
        have uh_152 := h_152.1
        have vh_152 := h_152.2
        refine pk_v (va_runV (As := [.int x_151]) (rest := []) ⟨hx, hb, hml, hown, hts⟩ (s_X4_emit l D t σ I J ri rj rq H.size tg hSH hG.1 this x_151 hL_this hK_this) (cwV 1 hts (tw_V tw_769 tw_770 tw_771 tw_25 tw_772) rfl rfl rfl cv_yX4_emit_1 ⟨Nat.le_of_ble_eq_true rfl, Nat.le_of_ble_eq_true rfl⟩) ⟨pq_blind, pq_recv hK hP hL_this hK_this (by decide +kernel) rfl, pq_pre hK hN hP hD⟩ rfl rfl hl.1 rfl (lv_room (Nat.le_of_ble_eq_true rfl)) dX4_readOne_55 ⟨Nat.le_of_ble_eq_true rfl, Nat.le_of_ble_eq_true rfl⟩) hD hS hA (fun σ1 μ1 H locs hw_154 hP hD hS => ?_)
        obtain ⟨I_155, ri_156, hu_157, hg_158, hp_160, hp_161, hfn_162, hfr_163⟩ := hw_154
        obtain ⟨hu_157a, hu_157b⟩ := Prod.mk.inj hu_157
        rw [hu_157a, hu_157b] at hP hD
        replace hF := hF.trans (bv_n hfn_162)
        replace hFr := fr_tr hFr hfr_163
        have tt_164 := hp_160
        have tt_165 := hp_161
        have hG := GX.tr hG hg_158 (by decide +kernel)
        have tt_166 : (I_155 134 this).toInt = (I 134 this).toInt := by rw [hg_158.2.1 134 (by decide +kernel) (by decide +kernel)]
        have tt_167 : (I_155 129 this).toInt = (I 129 this).toInt := by rw [hg_158.2.1 129 (by decide +kernel) (by decide +kernel)]
        have tt_168 : (I_155 197 this_scanner).toInt = (I 197 this_scanner).toInt := by rw [hg_158.2.1 197 (by decide +kernel) (by decide +kernel)]
        have tt_169 : (I_155 194 this_scanner).toInt = (I 194 this_scanner).toInt := by rw [hg_158.2.1 194 (by decide +kernel) (by decide +kernel)]
        refine lv_iconst (v := 0) hx hb dX4_readOne_58 (by decide +kernel) ?_
        subst hQ
        exact W.zret (v := 0) hx hb hr (by decide +kernel) (fun t1 ht hW => ⟨⟨0, (σ, I_155, J, ri_156, rj, rq), rfl, ⟨I_155, ri_156, rfl, hG, (by omega), (ft_t (fun _ _ => rfl) hp_161), (hF0.symm.trans hF), hFr, (Or.inr ⟨rfl, trivial⟩)⟩, by rw [ht]; exact hP, va_K.moved hW.alike hK, hD⟩, hS.F ht⟩) hS.2.2 dX4_readOne_59
    · replace hF := hF.trans (if_pos c_2)
      have tc_170 : (I 194 this_scanner).toInt = 18 := congrArg Int32.toInt c_2
      have h_171 : rg (I 194 this_scanner) 18 18 := rg_and (rg_full _) (rg_of_eq c_2 (rg_k (18 : Int32) 18 rfl)) (by decide +kernel)
      have uh_171 := h_171.1
      have vh_171 := h_171.2
      refine lv_aload_n hx hb dX4_readOne_14 rfl (lv_at hl 1 rfl) ?_
      refine pg_f (v := .ref this_scanner) (C := RX4) (T := TX4) (N := 12) hx hb hts (tw_i inlX4) hown hK hP hL_this hK_this (by decide +kernel) rfl 0 (by decide +kernel) (hts _ (tw_c tw_154)) (pq_hv rfl hR_this_scanner) dX4_readOne_15 ?_
      refine pg_f (v := .int (I 196 this_scanner)) (C := RX6) (T := TX6) (N := 6) hx hb hts (tw_i inlX6) hown hK hP hL_this_scanner hK_this_scanner (by decide +kernel) rfl 4 (by decide +kernel) (hts _ (tw_c tw_768)) rfl dX4_readOne_18 ?_
      replace hF := hF.trans (ap_n (vI_e (f := 196) hO_this_scanner (by decide +kernel)))
      refine lv_sipush (v := 9999) hx hb dX4_readOne_21 (by decide +kernel) ?_
      refine lv_icmp_le (tgt := 32) hx hb dX4_readOne_24 (by decide +kernel) (fun c_173 => ?_) (fun c_173 => ?_)
      · replace hF := hF.trans (if_pos c_173)
        have tc_178 : (I 196 this_scanner).toInt ≤ 9999 := Int32.le_iff_toInt_le.mp c_173
        have h_179 : rg (I 196 this_scanner) (-2147483648) 9999 := rg_le1 c_173 (rg_full _) (rg_k (9999 : Int32) 9999 rfl) (by decide +kernel)
        have uh_179 := h_179.1
        have vh_179 := h_179.2
        refine lv_aload_n hx hb dX4_readOne_32 rfl (lv_at hl 1 rfl) ?_
        refine lv_aload_n hx hb dX4_readOne_33 rfl (lv_at hl 1 rfl) ?_
        refine pg_f (v := .ref this_scanner) (C := RX4) (T := TX4) (N := 12) hx hb hts (tw_i inlX4) hown hK hP hL_this hK_this (by decide +kernel) rfl 0 (by decide +kernel) (hts _ (tw_c tw_154)) (pq_hv rfl hR_this_scanner) dX4_readOne_34 ?_
        refine pg_f (v := .int (I 196 this_scanner)) (C := RX6) (T := TX6) (N := 6) hx hb hts (tw_i inlX6) hown hK hP hL_this_scanner hK_this_scanner (by decide +kernel) rfl 4 (by decide +kernel) (hts _ (tw_c tw_768)) rfl dX4_readOne_37 ?_
        refine pk_v (va_runV (As := [.int (I 196 this_scanner)]) (rest := []) ⟨hx, hb, hml, hown, hts⟩ (s_X4_emit l D t σ I J ri rj rq H.size tg hSH hG.1 this (I 196 this_scanner) hL_this hK_this) (cwV 1 hts (tw_V tw_769 tw_770 tw_771 tw_25 tw_772) rfl rfl rfl cv_yX4_emit_1 ⟨Nat.le_of_ble_eq_true rfl, Nat.le_of_ble_eq_true rfl⟩) ⟨pq_blind, pq_recv hK hP hL_this hK_this (by decide +kernel) rfl, pq_pre hK hN hP hD⟩ rfl rfl hl.1 rfl (lv_room (Nat.le_of_ble_eq_true rfl)) dX4_readOne_40 ⟨Nat.le_of_ble_eq_true rfl, Nat.le_of_ble_eq_true rfl⟩) hD hS hA (fun σ1 μ1 H locs hw_181 hP hD hS => ?_)
        obtain ⟨I_182, ri_183, hu_184, hg_185, hp_187, hp_188, hfn_189, hfr_190⟩ := hw_181
        obtain ⟨hu_184a, hu_184b⟩ := Prod.mk.inj hu_184
        rw [hu_184a, hu_184b] at hP hD
        replace hF := hF.trans (bv_n hfn_189)
        replace hFr := fr_tr hFr hfr_190
        have tt_191 := hp_187
        have tt_192 := hp_188
        have hG := GX.tr hG hg_185 (by decide +kernel)
        have tt_193 : (I_182 134 this).toInt = (I 134 this).toInt := by rw [hg_185.2.1 134 (by decide +kernel) (by decide +kernel)]
        have tt_194 : (I_182 129 this).toInt = (I 129 this).toInt := by rw [hg_185.2.1 129 (by decide +kernel) (by decide +kernel)]
        have tt_195 : (I_182 197 this_scanner).toInt = (I 197 this_scanner).toInt := by rw [hg_185.2.1 197 (by decide +kernel) (by decide +kernel)]
        have tt_196 : (I_182 194 this_scanner).toInt = (I 194 this_scanner).toInt := by rw [hg_185.2.1 194 (by decide +kernel) (by decide +kernel)]
        refine lv_iconst (v := 0) hx hb dX4_readOne_43 (by decide +kernel) ?_
        subst hQ
        exact W.zret (v := 0) hx hb hr (by decide +kernel) (fun t1 ht hW => ⟨⟨0, (σ, I_182, J, ri_183, rj, rq), rfl, ⟨I_182, ri_183, rfl, hG, (by omega), (ft_t (fun _ _ => rfl) hp_188), (hF0.symm.trans hF), hFr, (Or.inr ⟨rfl, trivial⟩)⟩, by rw [ht]; exact hP, va_K.moved hW.alike hK, hD⟩, hS.F ht⟩) hS.2.2 dX4_readOne_44
      · replace hF := hF.trans (if_neg c_173)
        have tc_197 : 9999 < (I 196 this_scanner).toInt := Int32.lt_iff_toInt_lt.mp (nle c_173)
        have h_198 : rg (I 196 this_scanner) 10000 2147483647 := rg_lt2 (nle c_173) (rg_k (9999 : Int32) 9999 rfl) (rg_full _) (by decide +kernel)
        have uh_198 := h_198.1
        have vh_198 := h_198.2
        refine lv_aload_n hx hb dX4_readOne_27 rfl (lv_at hl 1 rfl) ?_
        refine lv_iconst (v := 2) hx hb dX4_readOne_28 (by decide +kernel) ?_
        refine pk_v (va_runV (As := [.int 2]) (rest := []) ⟨hx, hb, hml, hown, hts⟩ (s_X4_refuse l D t σ I J ri rj rq H.size tg hSH hG.1 this (2 : Int32) hL_this hK_this (rg_w (rg_k (2 : Int32) 2 rfl) (by decide +kernel))) (cwV 1 hts (tw_V tw_748 tw_749 tw_750 tw_25 tw_751) rfl rfl rfl cv_yX4_refuse_1 ⟨Nat.le_of_ble_eq_true rfl, Nat.le_of_ble_eq_true rfl⟩) ⟨pq_blind, pq_recv hK hP hL_this hK_this (by decide +kernel) rfl, pq_pre hK hN hP hD⟩ rfl rfl hl.1 rfl (lv_room (Nat.le_of_ble_eq_true rfl)) dX4_readOne_29 ⟨Nat.le_of_ble_eq_true rfl, Nat.le_of_ble_eq_true rfl⟩) hD hS hA (fun σ1 μ1 H locs hw_200 hP hD hS => ?_)
        obtain ⟨I_201, hu_202, hg_203, hp_205, hfn_206, hfr_207⟩ := hw_200
        obtain ⟨hu_202a, hu_202b⟩ := Prod.mk.inj hu_202
        rw [hu_202a, hu_202b] at hP hD
        replace hF := hF.trans (bv_n hfn_206)
        replace hFr := fr_tr hFr hfr_207
        have tt_208 := hp_205
        have hG := GX.tr hG hg_203 (by decide +kernel)
        have tt_209 : (I_201 132 this).toInt = (I 132 this).toInt := by rw [hg_203.2.1 132 (by decide +kernel) (by decide +kernel)]
        have tt_210 : (I_201 134 this).toInt = (I 134 this).toInt := by rw [hg_203.2.1 134 (by decide +kernel) (by decide +kernel)]
        have tt_211 : (I_201 197 this_scanner).toInt = (I 197 this_scanner).toInt := by rw [hg_203.2.1 197 (by decide +kernel) (by decide +kernel)]
        have tt_212 : (I_201 194 this_scanner).toInt = (I 194 this_scanner).toInt := by rw [hg_203.2.1 194 (by decide +kernel) (by decide +kernel)]
        refine lv_aload_n hx hb dX4_readOne_32 rfl (lv_at hl 1 rfl) ?_
        refine lv_aload_n hx hb dX4_readOne_33 rfl (lv_at hl 1 rfl) ?_
        refine pg_f (v := .ref this_scanner) (C := RX4) (T := TX4) (N := 12) hx hb hts (tw_i inlX4) hown hK hP hL_this hK_this (by decide +kernel) rfl 0 (by decide +kernel) (hts _ (tw_c tw_154)) (pq_hv rfl hR_this_scanner) dX4_readOne_34 ?_
        refine pg_f (v := .int (I_201 196 this_scanner)) (C := RX6) (T := TX6) (N := 6) hx hb hts (tw_i inlX6) hown hK hP hL_this_scanner hK_this_scanner (by decide +kernel) rfl 4 (by decide +kernel) (hts _ (tw_c tw_768)) rfl dX4_readOne_37 ?_
        replace hF := hF.trans (ap_n (vI_e (f := 196) hO_this_scanner (by decide +kernel)))
        refine pk_v (va_runV (As := [.int (I_201 196 this_scanner)]) (rest := []) ⟨hx, hb, hml, hown, hts⟩ (s_X4_emit l D t σ I_201 J ri rj rq H.size tg hSH hG.1 this (I_201 196 this_scanner) hL_this hK_this) (cwV 1 hts (tw_V tw_769 tw_770 tw_771 tw_25 tw_772) rfl rfl rfl cv_yX4_emit_1 ⟨Nat.le_of_ble_eq_true rfl, Nat.le_of_ble_eq_true rfl⟩) ⟨pq_blind, pq_recv hK hP hL_this hK_this (by decide +kernel) rfl, pq_pre hK hN hP hD⟩ rfl rfl hl.1 rfl (lv_room (Nat.le_of_ble_eq_true rfl)) dX4_readOne_40 ⟨Nat.le_of_ble_eq_true rfl, Nat.le_of_ble_eq_true rfl⟩) hD hS hA (fun σ1 μ1 H locs hw_215 hP hD hS => ?_)
        obtain ⟨I_216, ri_217, hu_218, hg_219, hp_221, hp_222, hfn_223, hfr_224⟩ := hw_215
        obtain ⟨hu_218a, hu_218b⟩ := Prod.mk.inj hu_218
        rw [hu_218a, hu_218b] at hP hD
        replace hF := hF.trans (bv_n hfn_223)
        replace hFr := fr_tr hFr hfr_224
        have tt_225 := hp_221
        have tt_226 := hp_222
        have hG := GX.tr hG hg_219 (by decide +kernel)
        have tt_227 : (I_216 134 this).toInt = (I_201 134 this).toInt := by rw [hg_219.2.1 134 (by decide +kernel) (by decide +kernel)]
        have tt_228 : (I_216 129 this).toInt = (I_201 129 this).toInt := by rw [hg_219.2.1 129 (by decide +kernel) (by decide +kernel)]
        have tt_229 : (I_216 197 this_scanner).toInt = (I_201 197 this_scanner).toInt := by rw [hg_219.2.1 197 (by decide +kernel) (by decide +kernel)]
        have tt_230 : (I_216 194 this_scanner).toInt = (I_201 194 this_scanner).toInt := by rw [hg_219.2.1 194 (by decide +kernel) (by decide +kernel)]
        refine lv_iconst (v := 0) hx hb dX4_readOne_43 (by decide +kernel) ?_
        subst hQ
        exact W.zret (v := 0) hx hb hr (by decide +kernel) (fun t1 ht hW => ⟨⟨0, (σ, I_216, J, ri_217, rj, rq), rfl, ⟨I_216, ri_217, rfl, hG, (by omega), (ft_t (fun _ _ => rfl) hp_222), (hF0.symm.trans hF), hFr, (Or.inr ⟨rfl, trivial⟩)⟩, by rw [ht]; exact hP, va_K.moved hW.alike hK, hD⟩, hS.F ht⟩) hS.2.2 dX4_readOne_44
  exact go _ _ _ hP hD hS hl

set_option maxRecDepth 100000 in
def g_X4_rank (a0 : Int32) : Int32 := (if a0 = (9 : Int32) then (1 : Int32) else (if a0 = (10 : Int32) then (2 : Int32) else (if a0 = (11 : Int32) then (3 : Int32) else (if a0 = (12 : Int32) then (4 : Int32) else (if a0 = (13 : Int32) then (4 : Int32) else (if a0 = (14 : Int32) then (4 : Int32) else (if a0 = (15 : Int32) then (4 : Int32) else (if a0 = (16 : Int32) then (4 : Int32) else (if a0 = (17 : Int32) then (4 : Int32) else (if a0 = (18 : Int32) then (4 : Int32) else (if a0 = (19 : Int32) then (4 : Int32) else (if a0 = (20 : Int32) then (4 : Int32) else (if a0 = (21 : Int32) then (4 : Int32) else (if a0 = (22 : Int32) then (4 : Int32) else (if a0 = (23 : Int32) then (4 : Int32) else (if a0 = (24 : Int32) then (4 : Int32) else (if a0 = (25 : Int32) then (5 : Int32) else (if a0 = (26 : Int32) then (5 : Int32) else (if a0 = (27 : Int32) then (6 : Int32) else (if a0 = (28 : Int32) then (6 : Int32) else (if a0 = (29 : Int32) then (0 : Int32) else (if a0 = (30 : Int32) then (4 : Int32) else (if a0 = (31 : Int32) then (4 : Int32) else (if a0 = (32 : Int32) then (4 : Int32) else (if a0 = (33 : Int32) then (4 : Int32) else (if a0 = (34 : Int32) then (4 : Int32) else (if a0 = (35 : Int32) then (7 : Int32) else (4 : Int32))))))))))))))))))))))))))))
set_option maxRecDepth 100000 in
theorem g_X4_rank_e {a0 : Int32} : g_X4_rank a0 = (if a0 = (9 : Int32) then (1 : Int32) else (if a0 = (10 : Int32) then (2 : Int32) else (if a0 = (11 : Int32) then (3 : Int32) else (if a0 = (12 : Int32) then (4 : Int32) else (if a0 = (13 : Int32) then (4 : Int32) else (if a0 = (14 : Int32) then (4 : Int32) else (if a0 = (15 : Int32) then (4 : Int32) else (if a0 = (16 : Int32) then (4 : Int32) else (if a0 = (17 : Int32) then (4 : Int32) else (if a0 = (18 : Int32) then (4 : Int32) else (if a0 = (19 : Int32) then (4 : Int32) else (if a0 = (20 : Int32) then (4 : Int32) else (if a0 = (21 : Int32) then (4 : Int32) else (if a0 = (22 : Int32) then (4 : Int32) else (if a0 = (23 : Int32) then (4 : Int32) else (if a0 = (24 : Int32) then (4 : Int32) else (if a0 = (25 : Int32) then (5 : Int32) else (if a0 = (26 : Int32) then (5 : Int32) else (if a0 = (27 : Int32) then (6 : Int32) else (if a0 = (28 : Int32) then (6 : Int32) else (if a0 = (29 : Int32) then (0 : Int32) else (if a0 = (30 : Int32) then (4 : Int32) else (if a0 = (31 : Int32) then (4 : Int32) else (if a0 = (32 : Int32) then (4 : Int32) else (if a0 = (33 : Int32) then (4 : Int32) else (if a0 = (34 : Int32) then (4 : Int32) else (if a0 = (35 : Int32) then (7 : Int32) else (4 : Int32)))))))))))))))))))))))))))) := rfl
set_option maxHeartbeats 4000000 in
set_option maxRecDepth 100000 in
theorem s_X4_rank (l : Launch) (D : va_G) (t : pq_T) (σ : pq_S) (I : Nat → Nat → Int32) (J : Nat → Nat → Int64) (ri : Nat → Nat → Int32) (rj : Nat → Nat → Int64) (rq : Nat → Nat → Option Nat) (sz : Nat) (tg : Nat → Nat) (hSH : SH σ tg) (hG0 : GS tg σ I ri rq) (a0 : Int32) : MetI l yX4_rank (wa yX4_rank cX4_rank 1 (some .int)) ({ frames := 0, cells := 0, slots := 0, locals := 0 }) [.int a0] D t σ (I, J, ri, rj, rq) sz 0 0 (fun (r : Int32) (u : pq_S × pq_M) => u = (σ, I, J, ri, rj, rq) ∧ g_X4_rank a0 = r ∧ rg r 0 7) := by
  refine Met.ofW (cc := cX4_rank) (maxL := 1) (ret := (some .int)) (by decide +kernel) rfl ?_
  intro p e s m args below meth c s₁ B hml hv
  obtain ⟨rfl, hsz, hP, hK, hD0, hN⟩ := hv
  have hx := B.exec
  have hb := B.bytes
  have hr := B.returns
  have hts := atoms_spec (ws := (wa yX4_rank cX4_rank 1 (some .int))) B.pre
  have hown : s.vm.findClass RX4 = some m.cls := findClass_of_methodNamed B.named
  have hlocks := B.notSynchronized
  subst hsz
  have hD : va_D (pq_B t σ (I, J, ri, rj, rq) s.heap.size) (pq_P t σ (I, J, ri, rj, rq)) := hD0.self
  generalize hAe : pq_B t σ (I, J, ri, rj, rq) s.heap.size = A at hD ⊢
  have hA : ∀ q : Nat, s.heap.size ≤ q → A q := fun q h => by rw [← hAe]; exact Or.inr h
  have hS : va_S A s.heap s.heap [] := va_S.rf
  have hG : GX [] tg σ I ri rj I ri rj rq := ⟨hG0, fun _ _ _ => rfl, fun _ _ _ _ _ => rfl, fun _ _ _ _ _ => rfl⟩
  have hl := lv_entry ([.int a0]) (n := 1) (Nat.le_of_ble_eq_true rfl)
  rw [lg_entry_eq]
  generalize (lg_sl ([.int a0]) ++ List.replicate (1 - (lg_sl ([.int a0])).length) Slot.unset).toArray = ls at hl ⊢
  have hl : lv_has ls 1 [(0, .int a0)] := hl
  refine q_gen (fun Q hQ => ?_)
  have go : ∀ (H : Heap) (locs : List Loc) (ls : Array Slot), va_P D vwCl (pq_P t σ (I, J, ri, rj, rq)) H → va_D A (pq_P t σ (I, J, ri, rj, rq)) → va_S A s.heap H locs → lv_has ls 1 [(0, .int a0)] → W p l e ({ frames := 0, cells := 0, slots := 0, locals := 0 } : Room) s m (List.toArray ([.int a0] : List Value)) below meth c H locs 0 0 Q (F0 m 0 ls []) := by
    intro H locs ls hP hD hS hl
    obtain ⟨F, hF0⟩ : ∃ F, F = g_X4_rank a0 := ⟨_, rfl⟩
    have hF := hF0.trans g_X4_rank_e
    refine lv_iload_n hx hb dX4_rank_0 rfl (lv_at hl 0 rfl) ?_
    by_cases k_1 : a0 = (9 : Int32)
    · replace hF := hF.trans (if_pos k_1)
      have tc_4 : (a0).toInt = 9 := congrArg Int32.toInt k_1
      have h_5 : rg a0 9 9 := rg_and (rg_full _) (rg_of_eq k_1 (rg_k (9 : Int32) 9 rfl)) (by decide +kernel)
      have uh_5 := h_5.1
      have vh_5 := h_5.2
      refine lv_tov 9 k_1 ?_
      refine lv_tableIn (tgt := 124) hx hb dX4_rank_1 (by decide +kernel) (by decide +kernel) rfl (by decide +kernel) ?_
      refine lv_iconst (v := 1) hx hb dX4_rank_124 (by decide +kernel) ?_
      subst hQ
      exact W.iret (v := 1) hx hb hr (fun t1 ht hW => ⟨⟨1, (σ, I, J, ri, rj, rq), rfl, ⟨rfl, (hF0.symm.trans hF), (rg_w (rg_k (1 : Int32) 1 rfl) (by decide +kernel))⟩, by rw [ht]; exact hP, va_K.moved hW.alike hK, hD⟩, hS.F ht⟩) hS.2.2 dX4_rank_125
    replace hF := hF.trans (if_neg k_1)
    by_cases k_6 : a0 = (10 : Int32)
    · replace hF := hF.trans (if_pos k_6)
      have tc_9 : (a0).toInt = 10 := congrArg Int32.toInt k_6
      have h_10 : rg a0 10 10 := rg_and (rg_full _) (rg_of_eq k_6 (rg_k (10 : Int32) 10 rfl)) (by decide +kernel)
      have uh_10 := h_10.1
      have vh_10 := h_10.2
      refine lv_tov 10 k_6 ?_
      refine lv_tableIn (tgt := 126) hx hb dX4_rank_1 (by decide +kernel) (by decide +kernel) rfl (by decide +kernel) ?_
      refine lv_iconst (v := 2) hx hb dX4_rank_126 (by decide +kernel) ?_
      subst hQ
      exact W.iret (v := 2) hx hb hr (fun t1 ht hW => ⟨⟨2, (σ, I, J, ri, rj, rq), rfl, ⟨rfl, (hF0.symm.trans hF), (rg_w (rg_k (2 : Int32) 2 rfl) (by decide +kernel))⟩, by rw [ht]; exact hP, va_K.moved hW.alike hK, hD⟩, hS.F ht⟩) hS.2.2 dX4_rank_127
    replace hF := hF.trans (if_neg k_6)
    by_cases k_11 : a0 = (11 : Int32)
    · replace hF := hF.trans (if_pos k_11)
      have tc_14 : (a0).toInt = 11 := congrArg Int32.toInt k_11
      have h_15 : rg a0 11 11 := rg_and (rg_full _) (rg_of_eq k_11 (rg_k (11 : Int32) 11 rfl)) (by decide +kernel)
      have uh_15 := h_15.1
      have vh_15 := h_15.2
      refine lv_tov 11 k_11 ?_
      refine lv_tableIn (tgt := 128) hx hb dX4_rank_1 (by decide +kernel) (by decide +kernel) rfl (by decide +kernel) ?_
      refine lv_iconst (v := 3) hx hb dX4_rank_128 (by decide +kernel) ?_
      subst hQ
      exact W.iret (v := 3) hx hb hr (fun t1 ht hW => ⟨⟨3, (σ, I, J, ri, rj, rq), rfl, ⟨rfl, (hF0.symm.trans hF), (rg_w (rg_k (3 : Int32) 3 rfl) (by decide +kernel))⟩, by rw [ht]; exact hP, va_K.moved hW.alike hK, hD⟩, hS.F ht⟩) hS.2.2 dX4_rank_129
    replace hF := hF.trans (if_neg k_11)
    by_cases k_16 : a0 = (12 : Int32)
    · replace hF := hF.trans (if_pos k_16)
      have tc_19 : (a0).toInt = 12 := congrArg Int32.toInt k_16
      have h_20 : rg a0 12 12 := rg_and (rg_full _) (rg_of_eq k_16 (rg_k (12 : Int32) 12 rfl)) (by decide +kernel)
      have uh_20 := h_20.1
      have vh_20 := h_20.2
      refine lv_tov 12 k_16 ?_
      refine lv_tableIn (tgt := 140) hx hb dX4_rank_1 (by decide +kernel) (by decide +kernel) rfl (by decide +kernel) ?_
      refine lv_iconst (v := 4) hx hb dX4_rank_140 (by decide +kernel) ?_
      subst hQ
      exact W.iret (v := 4) hx hb hr (fun t1 ht hW => ⟨⟨4, (σ, I, J, ri, rj, rq), rfl, ⟨rfl, (hF0.symm.trans hF), (rg_w (rg_k (4 : Int32) 4 rfl) (by decide +kernel))⟩, by rw [ht]; exact hP, va_K.moved hW.alike hK, hD⟩, hS.F ht⟩) hS.2.2 dX4_rank_141
    replace hF := hF.trans (if_neg k_16)
    by_cases k_21 : a0 = (13 : Int32)
    · replace hF := hF.trans (if_pos k_21)
      have tc_24 : (a0).toInt = 13 := congrArg Int32.toInt k_21
      have h_25 : rg a0 13 13 := rg_and (rg_full _) (rg_of_eq k_21 (rg_k (13 : Int32) 13 rfl)) (by decide +kernel)
      have uh_25 := h_25.1
      have vh_25 := h_25.2
      refine lv_tov 13 k_21 ?_
      refine lv_tableIn (tgt := 140) hx hb dX4_rank_1 (by decide +kernel) (by decide +kernel) rfl (by decide +kernel) ?_
      refine lv_iconst (v := 4) hx hb dX4_rank_140 (by decide +kernel) ?_
      subst hQ
      exact W.iret (v := 4) hx hb hr (fun t1 ht hW => ⟨⟨4, (σ, I, J, ri, rj, rq), rfl, ⟨rfl, (hF0.symm.trans hF), (rg_w (rg_k (4 : Int32) 4 rfl) (by decide +kernel))⟩, by rw [ht]; exact hP, va_K.moved hW.alike hK, hD⟩, hS.F ht⟩) hS.2.2 dX4_rank_141
    replace hF := hF.trans (if_neg k_21)
    by_cases k_26 : a0 = (14 : Int32)
    · replace hF := hF.trans (if_pos k_26)
      have tc_29 : (a0).toInt = 14 := congrArg Int32.toInt k_26
      have h_30 : rg a0 14 14 := rg_and (rg_full _) (rg_of_eq k_26 (rg_k (14 : Int32) 14 rfl)) (by decide +kernel)
      have uh_30 := h_30.1
      have vh_30 := h_30.2
      refine lv_tov 14 k_26 ?_
      refine lv_tableIn (tgt := 140) hx hb dX4_rank_1 (by decide +kernel) (by decide +kernel) rfl (by decide +kernel) ?_
      refine lv_iconst (v := 4) hx hb dX4_rank_140 (by decide +kernel) ?_
      subst hQ
      exact W.iret (v := 4) hx hb hr (fun t1 ht hW => ⟨⟨4, (σ, I, J, ri, rj, rq), rfl, ⟨rfl, (hF0.symm.trans hF), (rg_w (rg_k (4 : Int32) 4 rfl) (by decide +kernel))⟩, by rw [ht]; exact hP, va_K.moved hW.alike hK, hD⟩, hS.F ht⟩) hS.2.2 dX4_rank_141
    replace hF := hF.trans (if_neg k_26)
    by_cases k_31 : a0 = (15 : Int32)
    · replace hF := hF.trans (if_pos k_31)
      have tc_34 : (a0).toInt = 15 := congrArg Int32.toInt k_31
      have h_35 : rg a0 15 15 := rg_and (rg_full _) (rg_of_eq k_31 (rg_k (15 : Int32) 15 rfl)) (by decide +kernel)
      have uh_35 := h_35.1
      have vh_35 := h_35.2
      refine lv_tov 15 k_31 ?_
      refine lv_tableIn (tgt := 140) hx hb dX4_rank_1 (by decide +kernel) (by decide +kernel) rfl (by decide +kernel) ?_
      refine lv_iconst (v := 4) hx hb dX4_rank_140 (by decide +kernel) ?_
      subst hQ
      exact W.iret (v := 4) hx hb hr (fun t1 ht hW => ⟨⟨4, (σ, I, J, ri, rj, rq), rfl, ⟨rfl, (hF0.symm.trans hF), (rg_w (rg_k (4 : Int32) 4 rfl) (by decide +kernel))⟩, by rw [ht]; exact hP, va_K.moved hW.alike hK, hD⟩, hS.F ht⟩) hS.2.2 dX4_rank_141
    replace hF := hF.trans (if_neg k_31)
    by_cases k_36 : a0 = (16 : Int32)
    · replace hF := hF.trans (if_pos k_36)
      have tc_39 : (a0).toInt = 16 := congrArg Int32.toInt k_36
      have h_40 : rg a0 16 16 := rg_and (rg_full _) (rg_of_eq k_36 (rg_k (16 : Int32) 16 rfl)) (by decide +kernel)
      have uh_40 := h_40.1
      have vh_40 := h_40.2
      refine lv_tov 16 k_36 ?_
      refine lv_tableIn (tgt := 140) hx hb dX4_rank_1 (by decide +kernel) (by decide +kernel) rfl (by decide +kernel) ?_
      refine lv_iconst (v := 4) hx hb dX4_rank_140 (by decide +kernel) ?_
      subst hQ
      exact W.iret (v := 4) hx hb hr (fun t1 ht hW => ⟨⟨4, (σ, I, J, ri, rj, rq), rfl, ⟨rfl, (hF0.symm.trans hF), (rg_w (rg_k (4 : Int32) 4 rfl) (by decide +kernel))⟩, by rw [ht]; exact hP, va_K.moved hW.alike hK, hD⟩, hS.F ht⟩) hS.2.2 dX4_rank_141
    replace hF := hF.trans (if_neg k_36)
    by_cases k_41 : a0 = (17 : Int32)
    · replace hF := hF.trans (if_pos k_41)
      have tc_44 : (a0).toInt = 17 := congrArg Int32.toInt k_41
      have h_45 : rg a0 17 17 := rg_and (rg_full _) (rg_of_eq k_41 (rg_k (17 : Int32) 17 rfl)) (by decide +kernel)
      have uh_45 := h_45.1
      have vh_45 := h_45.2
      refine lv_tov 17 k_41 ?_
      refine lv_tableIn (tgt := 140) hx hb dX4_rank_1 (by decide +kernel) (by decide +kernel) rfl (by decide +kernel) ?_
      refine lv_iconst (v := 4) hx hb dX4_rank_140 (by decide +kernel) ?_
      subst hQ
      exact W.iret (v := 4) hx hb hr (fun t1 ht hW => ⟨⟨4, (σ, I, J, ri, rj, rq), rfl, ⟨rfl, (hF0.symm.trans hF), (rg_w (rg_k (4 : Int32) 4 rfl) (by decide +kernel))⟩, by rw [ht]; exact hP, va_K.moved hW.alike hK, hD⟩, hS.F ht⟩) hS.2.2 dX4_rank_141
    replace hF := hF.trans (if_neg k_41)
    by_cases k_46 : a0 = (18 : Int32)
    · replace hF := hF.trans (if_pos k_46)
      have tc_49 : (a0).toInt = 18 := congrArg Int32.toInt k_46
      have h_50 : rg a0 18 18 := rg_and (rg_full _) (rg_of_eq k_46 (rg_k (18 : Int32) 18 rfl)) (by decide +kernel)
      have uh_50 := h_50.1
      have vh_50 := h_50.2
      refine lv_tov 18 k_46 ?_
      refine lv_tableIn (tgt := 140) hx hb dX4_rank_1 (by decide +kernel) (by decide +kernel) rfl (by decide +kernel) ?_
      refine lv_iconst (v := 4) hx hb dX4_rank_140 (by decide +kernel) ?_
      subst hQ
      exact W.iret (v := 4) hx hb hr (fun t1 ht hW => ⟨⟨4, (σ, I, J, ri, rj, rq), rfl, ⟨rfl, (hF0.symm.trans hF), (rg_w (rg_k (4 : Int32) 4 rfl) (by decide +kernel))⟩, by rw [ht]; exact hP, va_K.moved hW.alike hK, hD⟩, hS.F ht⟩) hS.2.2 dX4_rank_141
    replace hF := hF.trans (if_neg k_46)
    by_cases k_51 : a0 = (19 : Int32)
    · replace hF := hF.trans (if_pos k_51)
      have tc_54 : (a0).toInt = 19 := congrArg Int32.toInt k_51
      have h_55 : rg a0 19 19 := rg_and (rg_full _) (rg_of_eq k_51 (rg_k (19 : Int32) 19 rfl)) (by decide +kernel)
      have uh_55 := h_55.1
      have vh_55 := h_55.2
      refine lv_tov 19 k_51 ?_
      refine lv_tableIn (tgt := 140) hx hb dX4_rank_1 (by decide +kernel) (by decide +kernel) rfl (by decide +kernel) ?_
      refine lv_iconst (v := 4) hx hb dX4_rank_140 (by decide +kernel) ?_
      subst hQ
      exact W.iret (v := 4) hx hb hr (fun t1 ht hW => ⟨⟨4, (σ, I, J, ri, rj, rq), rfl, ⟨rfl, (hF0.symm.trans hF), (rg_w (rg_k (4 : Int32) 4 rfl) (by decide +kernel))⟩, by rw [ht]; exact hP, va_K.moved hW.alike hK, hD⟩, hS.F ht⟩) hS.2.2 dX4_rank_141
    replace hF := hF.trans (if_neg k_51)
    by_cases k_56 : a0 = (20 : Int32)
    · replace hF := hF.trans (if_pos k_56)
      have tc_59 : (a0).toInt = 20 := congrArg Int32.toInt k_56
      have h_60 : rg a0 20 20 := rg_and (rg_full _) (rg_of_eq k_56 (rg_k (20 : Int32) 20 rfl)) (by decide +kernel)
      have uh_60 := h_60.1
      have vh_60 := h_60.2
      refine lv_tov 20 k_56 ?_
      refine lv_tableIn (tgt := 140) hx hb dX4_rank_1 (by decide +kernel) (by decide +kernel) rfl (by decide +kernel) ?_
      refine lv_iconst (v := 4) hx hb dX4_rank_140 (by decide +kernel) ?_
      subst hQ
      exact W.iret (v := 4) hx hb hr (fun t1 ht hW => ⟨⟨4, (σ, I, J, ri, rj, rq), rfl, ⟨rfl, (hF0.symm.trans hF), (rg_w (rg_k (4 : Int32) 4 rfl) (by decide +kernel))⟩, by rw [ht]; exact hP, va_K.moved hW.alike hK, hD⟩, hS.F ht⟩) hS.2.2 dX4_rank_141
    replace hF := hF.trans (if_neg k_56)
    by_cases k_61 : a0 = (21 : Int32)
    · replace hF := hF.trans (if_pos k_61)
      have tc_64 : (a0).toInt = 21 := congrArg Int32.toInt k_61
      have h_65 : rg a0 21 21 := rg_and (rg_full _) (rg_of_eq k_61 (rg_k (21 : Int32) 21 rfl)) (by decide +kernel)
      have uh_65 := h_65.1
      have vh_65 := h_65.2
      refine lv_tov 21 k_61 ?_
      refine lv_tableIn (tgt := 140) hx hb dX4_rank_1 (by decide +kernel) (by decide +kernel) rfl (by decide +kernel) ?_
      refine lv_iconst (v := 4) hx hb dX4_rank_140 (by decide +kernel) ?_
      subst hQ
      exact W.iret (v := 4) hx hb hr (fun t1 ht hW => ⟨⟨4, (σ, I, J, ri, rj, rq), rfl, ⟨rfl, (hF0.symm.trans hF), (rg_w (rg_k (4 : Int32) 4 rfl) (by decide +kernel))⟩, by rw [ht]; exact hP, va_K.moved hW.alike hK, hD⟩, hS.F ht⟩) hS.2.2 dX4_rank_141
    replace hF := hF.trans (if_neg k_61)
    by_cases k_66 : a0 = (22 : Int32)
    · replace hF := hF.trans (if_pos k_66)
      have tc_69 : (a0).toInt = 22 := congrArg Int32.toInt k_66
      have h_70 : rg a0 22 22 := rg_and (rg_full _) (rg_of_eq k_66 (rg_k (22 : Int32) 22 rfl)) (by decide +kernel)
      have uh_70 := h_70.1
      have vh_70 := h_70.2
      refine lv_tov 22 k_66 ?_
      refine lv_tableIn (tgt := 140) hx hb dX4_rank_1 (by decide +kernel) (by decide +kernel) rfl (by decide +kernel) ?_
      refine lv_iconst (v := 4) hx hb dX4_rank_140 (by decide +kernel) ?_
      subst hQ
      exact W.iret (v := 4) hx hb hr (fun t1 ht hW => ⟨⟨4, (σ, I, J, ri, rj, rq), rfl, ⟨rfl, (hF0.symm.trans hF), (rg_w (rg_k (4 : Int32) 4 rfl) (by decide +kernel))⟩, by rw [ht]; exact hP, va_K.moved hW.alike hK, hD⟩, hS.F ht⟩) hS.2.2 dX4_rank_141
    replace hF := hF.trans (if_neg k_66)
    by_cases k_71 : a0 = (23 : Int32)
    · replace hF := hF.trans (if_pos k_71)
      have tc_74 : (a0).toInt = 23 := congrArg Int32.toInt k_71
      have h_75 : rg a0 23 23 := rg_and (rg_full _) (rg_of_eq k_71 (rg_k (23 : Int32) 23 rfl)) (by decide +kernel)
      have uh_75 := h_75.1
      have vh_75 := h_75.2
      refine lv_tov 23 k_71 ?_
      refine lv_tableIn (tgt := 140) hx hb dX4_rank_1 (by decide +kernel) (by decide +kernel) rfl (by decide +kernel) ?_
      refine lv_iconst (v := 4) hx hb dX4_rank_140 (by decide +kernel) ?_
      subst hQ
      exact W.iret (v := 4) hx hb hr (fun t1 ht hW => ⟨⟨4, (σ, I, J, ri, rj, rq), rfl, ⟨rfl, (hF0.symm.trans hF), (rg_w (rg_k (4 : Int32) 4 rfl) (by decide +kernel))⟩, by rw [ht]; exact hP, va_K.moved hW.alike hK, hD⟩, hS.F ht⟩) hS.2.2 dX4_rank_141
    replace hF := hF.trans (if_neg k_71)
    by_cases k_76 : a0 = (24 : Int32)
    · replace hF := hF.trans (if_pos k_76)
      have tc_79 : (a0).toInt = 24 := congrArg Int32.toInt k_76
      have h_80 : rg a0 24 24 := rg_and (rg_full _) (rg_of_eq k_76 (rg_k (24 : Int32) 24 rfl)) (by decide +kernel)
      have uh_80 := h_80.1
      have vh_80 := h_80.2
      refine lv_tov 24 k_76 ?_
      refine lv_tableIn (tgt := 140) hx hb dX4_rank_1 (by decide +kernel) (by decide +kernel) rfl (by decide +kernel) ?_
      refine lv_iconst (v := 4) hx hb dX4_rank_140 (by decide +kernel) ?_
      subst hQ
      exact W.iret (v := 4) hx hb hr (fun t1 ht hW => ⟨⟨4, (σ, I, J, ri, rj, rq), rfl, ⟨rfl, (hF0.symm.trans hF), (rg_w (rg_k (4 : Int32) 4 rfl) (by decide +kernel))⟩, by rw [ht]; exact hP, va_K.moved hW.alike hK, hD⟩, hS.F ht⟩) hS.2.2 dX4_rank_141
    replace hF := hF.trans (if_neg k_76)
    by_cases k_81 : a0 = (25 : Int32)
    · replace hF := hF.trans (if_pos k_81)
      have tc_84 : (a0).toInt = 25 := congrArg Int32.toInt k_81
      have h_85 : rg a0 25 25 := rg_and (rg_full _) (rg_of_eq k_81 (rg_k (25 : Int32) 25 rfl)) (by decide +kernel)
      have uh_85 := h_85.1
      have vh_85 := h_85.2
      refine lv_tov 25 k_81 ?_
      refine lv_tableIn (tgt := 130) hx hb dX4_rank_1 (by decide +kernel) (by decide +kernel) rfl (by decide +kernel) ?_
      refine lv_iconst (v := 5) hx hb dX4_rank_130 (by decide +kernel) ?_
      subst hQ
      exact W.iret (v := 5) hx hb hr (fun t1 ht hW => ⟨⟨5, (σ, I, J, ri, rj, rq), rfl, ⟨rfl, (hF0.symm.trans hF), (rg_w (rg_k (5 : Int32) 5 rfl) (by decide +kernel))⟩, by rw [ht]; exact hP, va_K.moved hW.alike hK, hD⟩, hS.F ht⟩) hS.2.2 dX4_rank_131
    replace hF := hF.trans (if_neg k_81)
    by_cases k_86 : a0 = (26 : Int32)
    · replace hF := hF.trans (if_pos k_86)
      have tc_89 : (a0).toInt = 26 := congrArg Int32.toInt k_86
      have h_90 : rg a0 26 26 := rg_and (rg_full _) (rg_of_eq k_86 (rg_k (26 : Int32) 26 rfl)) (by decide +kernel)
      have uh_90 := h_90.1
      have vh_90 := h_90.2
      refine lv_tov 26 k_86 ?_
      refine lv_tableIn (tgt := 130) hx hb dX4_rank_1 (by decide +kernel) (by decide +kernel) rfl (by decide +kernel) ?_
      refine lv_iconst (v := 5) hx hb dX4_rank_130 (by decide +kernel) ?_
      subst hQ
      exact W.iret (v := 5) hx hb hr (fun t1 ht hW => ⟨⟨5, (σ, I, J, ri, rj, rq), rfl, ⟨rfl, (hF0.symm.trans hF), (rg_w (rg_k (5 : Int32) 5 rfl) (by decide +kernel))⟩, by rw [ht]; exact hP, va_K.moved hW.alike hK, hD⟩, hS.F ht⟩) hS.2.2 dX4_rank_131
    replace hF := hF.trans (if_neg k_86)
    by_cases k_91 : a0 = (27 : Int32)
    · replace hF := hF.trans (if_pos k_91)
      have tc_94 : (a0).toInt = 27 := congrArg Int32.toInt k_91
      have h_95 : rg a0 27 27 := rg_and (rg_full _) (rg_of_eq k_91 (rg_k (27 : Int32) 27 rfl)) (by decide +kernel)
      have uh_95 := h_95.1
      have vh_95 := h_95.2
      refine lv_tov 27 k_91 ?_
      refine lv_tableIn (tgt := 132) hx hb dX4_rank_1 (by decide +kernel) (by decide +kernel) rfl (by decide +kernel) ?_
      refine lv_bipush (v := 6) hx hb dX4_rank_132 (by decide +kernel) ?_
      subst hQ
      exact W.iret (v := 6) hx hb hr (fun t1 ht hW => ⟨⟨6, (σ, I, J, ri, rj, rq), rfl, ⟨rfl, (hF0.symm.trans hF), (rg_w (rg_k (6 : Int32) 6 rfl) (by decide +kernel))⟩, by rw [ht]; exact hP, va_K.moved hW.alike hK, hD⟩, hS.F ht⟩) hS.2.2 dX4_rank_134
    replace hF := hF.trans (if_neg k_91)
    by_cases k_96 : a0 = (28 : Int32)
    · replace hF := hF.trans (if_pos k_96)
      have tc_99 : (a0).toInt = 28 := congrArg Int32.toInt k_96
      have h_100 : rg a0 28 28 := rg_and (rg_full _) (rg_of_eq k_96 (rg_k (28 : Int32) 28 rfl)) (by decide +kernel)
      have uh_100 := h_100.1
      have vh_100 := h_100.2
      refine lv_tov 28 k_96 ?_
      refine lv_tableIn (tgt := 132) hx hb dX4_rank_1 (by decide +kernel) (by decide +kernel) rfl (by decide +kernel) ?_
      refine lv_bipush (v := 6) hx hb dX4_rank_132 (by decide +kernel) ?_
      subst hQ
      exact W.iret (v := 6) hx hb hr (fun t1 ht hW => ⟨⟨6, (σ, I, J, ri, rj, rq), rfl, ⟨rfl, (hF0.symm.trans hF), (rg_w (rg_k (6 : Int32) 6 rfl) (by decide +kernel))⟩, by rw [ht]; exact hP, va_K.moved hW.alike hK, hD⟩, hS.F ht⟩) hS.2.2 dX4_rank_134
    replace hF := hF.trans (if_neg k_96)
    by_cases k_101 : a0 = (29 : Int32)
    · replace hF := hF.trans (if_pos k_101)
      have tc_104 : (a0).toInt = 29 := congrArg Int32.toInt k_101
      have h_105 : rg a0 29 29 := rg_and (rg_full _) (rg_of_eq k_101 (rg_k (29 : Int32) 29 rfl)) (by decide +kernel)
      have uh_105 := h_105.1
      have vh_105 := h_105.2
      refine lv_tov 29 k_101 ?_
      refine lv_tableIn (tgt := 138) hx hb dX4_rank_1 (by decide +kernel) (by decide +kernel) rfl (by decide +kernel) ?_
      refine lv_iconst (v := 0) hx hb dX4_rank_138 (by decide +kernel) ?_
      subst hQ
      exact W.iret (v := 0) hx hb hr (fun t1 ht hW => ⟨⟨0, (σ, I, J, ri, rj, rq), rfl, ⟨rfl, (hF0.symm.trans hF), (rg_w (rg_k (0 : Int32) 0 rfl) (by decide +kernel))⟩, by rw [ht]; exact hP, va_K.moved hW.alike hK, hD⟩, hS.F ht⟩) hS.2.2 dX4_rank_139
    replace hF := hF.trans (if_neg k_101)
    by_cases k_106 : a0 = (30 : Int32)
    · replace hF := hF.trans (if_pos k_106)
      have tc_109 : (a0).toInt = 30 := congrArg Int32.toInt k_106
      have h_110 : rg a0 30 30 := rg_and (rg_full _) (rg_of_eq k_106 (rg_k (30 : Int32) 30 rfl)) (by decide +kernel)
      have uh_110 := h_110.1
      have vh_110 := h_110.2
      refine lv_tov 30 k_106 ?_
      refine lv_tableIn (tgt := 140) hx hb dX4_rank_1 (by decide +kernel) (by decide +kernel) rfl (by decide +kernel) ?_
      refine lv_iconst (v := 4) hx hb dX4_rank_140 (by decide +kernel) ?_
      subst hQ
      exact W.iret (v := 4) hx hb hr (fun t1 ht hW => ⟨⟨4, (σ, I, J, ri, rj, rq), rfl, ⟨rfl, (hF0.symm.trans hF), (rg_w (rg_k (4 : Int32) 4 rfl) (by decide +kernel))⟩, by rw [ht]; exact hP, va_K.moved hW.alike hK, hD⟩, hS.F ht⟩) hS.2.2 dX4_rank_141
    replace hF := hF.trans (if_neg k_106)
    by_cases k_111 : a0 = (31 : Int32)
    · replace hF := hF.trans (if_pos k_111)
      have tc_114 : (a0).toInt = 31 := congrArg Int32.toInt k_111
      have h_115 : rg a0 31 31 := rg_and (rg_full _) (rg_of_eq k_111 (rg_k (31 : Int32) 31 rfl)) (by decide +kernel)
      have uh_115 := h_115.1
      have vh_115 := h_115.2
      refine lv_tov 31 k_111 ?_
      refine lv_tableIn (tgt := 140) hx hb dX4_rank_1 (by decide +kernel) (by decide +kernel) rfl (by decide +kernel) ?_
      refine lv_iconst (v := 4) hx hb dX4_rank_140 (by decide +kernel) ?_
      subst hQ
      exact W.iret (v := 4) hx hb hr (fun t1 ht hW => ⟨⟨4, (σ, I, J, ri, rj, rq), rfl, ⟨rfl, (hF0.symm.trans hF), (rg_w (rg_k (4 : Int32) 4 rfl) (by decide +kernel))⟩, by rw [ht]; exact hP, va_K.moved hW.alike hK, hD⟩, hS.F ht⟩) hS.2.2 dX4_rank_141
    replace hF := hF.trans (if_neg k_111)
    by_cases k_116 : a0 = (32 : Int32)
    · replace hF := hF.trans (if_pos k_116)
      have tc_119 : (a0).toInt = 32 := congrArg Int32.toInt k_116
      have h_120 : rg a0 32 32 := rg_and (rg_full _) (rg_of_eq k_116 (rg_k (32 : Int32) 32 rfl)) (by decide +kernel)
      have uh_120 := h_120.1
      have vh_120 := h_120.2
      refine lv_tov 32 k_116 ?_
      refine lv_tableIn (tgt := 140) hx hb dX4_rank_1 (by decide +kernel) (by decide +kernel) rfl (by decide +kernel) ?_
      refine lv_iconst (v := 4) hx hb dX4_rank_140 (by decide +kernel) ?_
      subst hQ
      exact W.iret (v := 4) hx hb hr (fun t1 ht hW => ⟨⟨4, (σ, I, J, ri, rj, rq), rfl, ⟨rfl, (hF0.symm.trans hF), (rg_w (rg_k (4 : Int32) 4 rfl) (by decide +kernel))⟩, by rw [ht]; exact hP, va_K.moved hW.alike hK, hD⟩, hS.F ht⟩) hS.2.2 dX4_rank_141
    replace hF := hF.trans (if_neg k_116)
    by_cases k_121 : a0 = (33 : Int32)
    · replace hF := hF.trans (if_pos k_121)
      have tc_124 : (a0).toInt = 33 := congrArg Int32.toInt k_121
      have h_125 : rg a0 33 33 := rg_and (rg_full _) (rg_of_eq k_121 (rg_k (33 : Int32) 33 rfl)) (by decide +kernel)
      have uh_125 := h_125.1
      have vh_125 := h_125.2
      refine lv_tov 33 k_121 ?_
      refine lv_tableIn (tgt := 140) hx hb dX4_rank_1 (by decide +kernel) (by decide +kernel) rfl (by decide +kernel) ?_
      refine lv_iconst (v := 4) hx hb dX4_rank_140 (by decide +kernel) ?_
      subst hQ
      exact W.iret (v := 4) hx hb hr (fun t1 ht hW => ⟨⟨4, (σ, I, J, ri, rj, rq), rfl, ⟨rfl, (hF0.symm.trans hF), (rg_w (rg_k (4 : Int32) 4 rfl) (by decide +kernel))⟩, by rw [ht]; exact hP, va_K.moved hW.alike hK, hD⟩, hS.F ht⟩) hS.2.2 dX4_rank_141
    replace hF := hF.trans (if_neg k_121)
    by_cases k_126 : a0 = (34 : Int32)
    · replace hF := hF.trans (if_pos k_126)
      have tc_129 : (a0).toInt = 34 := congrArg Int32.toInt k_126
      have h_130 : rg a0 34 34 := rg_and (rg_full _) (rg_of_eq k_126 (rg_k (34 : Int32) 34 rfl)) (by decide +kernel)
      have uh_130 := h_130.1
      have vh_130 := h_130.2
      refine lv_tov 34 k_126 ?_
      refine lv_tableIn (tgt := 140) hx hb dX4_rank_1 (by decide +kernel) (by decide +kernel) rfl (by decide +kernel) ?_
      refine lv_iconst (v := 4) hx hb dX4_rank_140 (by decide +kernel) ?_
      subst hQ
      exact W.iret (v := 4) hx hb hr (fun t1 ht hW => ⟨⟨4, (σ, I, J, ri, rj, rq), rfl, ⟨rfl, (hF0.symm.trans hF), (rg_w (rg_k (4 : Int32) 4 rfl) (by decide +kernel))⟩, by rw [ht]; exact hP, va_K.moved hW.alike hK, hD⟩, hS.F ht⟩) hS.2.2 dX4_rank_141
    replace hF := hF.trans (if_neg k_126)
    by_cases k_131 : a0 = (35 : Int32)
    · replace hF := hF.trans (if_pos k_131)
      have tc_134 : (a0).toInt = 35 := congrArg Int32.toInt k_131
      have h_135 : rg a0 35 35 := rg_and (rg_full _) (rg_of_eq k_131 (rg_k (35 : Int32) 35 rfl)) (by decide +kernel)
      have uh_135 := h_135.1
      have vh_135 := h_135.2
      refine lv_tov 35 k_131 ?_
      refine lv_tableIn (tgt := 135) hx hb dX4_rank_1 (by decide +kernel) (by decide +kernel) rfl (by decide +kernel) ?_
      refine lv_bipush (v := 7) hx hb dX4_rank_135 (by decide +kernel) ?_
      subst hQ
      exact W.iret (v := 7) hx hb hr (fun t1 ht hW => ⟨⟨7, (σ, I, J, ri, rj, rq), rfl, ⟨rfl, (hF0.symm.trans hF), (rg_w (rg_k (7 : Int32) 7 rfl) (by decide +kernel))⟩, by rw [ht]; exact hP, va_K.moved hW.alike hK, hD⟩, hS.F ht⟩) hS.2.2 dX4_rank_137
    replace hF := hF.trans (if_neg k_131)
    refine lv_tableOut (tgt := 140) hx hb dX4_rank_1 (by have z_k_1 := sw_ne k_1 (n := 9) rfl; have z_k_6 := sw_ne k_6 (n := 10) rfl; have z_k_11 := sw_ne k_11 (n := 11) rfl; have z_k_16 := sw_ne k_16 (n := 12) rfl; have z_k_21 := sw_ne k_21 (n := 13) rfl; have z_k_26 := sw_ne k_26 (n := 14) rfl; have z_k_31 := sw_ne k_31 (n := 15) rfl; have z_k_36 := sw_ne k_36 (n := 16) rfl; have z_k_41 := sw_ne k_41 (n := 17) rfl; have z_k_46 := sw_ne k_46 (n := 18) rfl; have z_k_51 := sw_ne k_51 (n := 19) rfl; have z_k_56 := sw_ne k_56 (n := 20) rfl; have z_k_61 := sw_ne k_61 (n := 21) rfl; have z_k_66 := sw_ne k_66 (n := 22) rfl; have z_k_71 := sw_ne k_71 (n := 23) rfl; have z_k_76 := sw_ne k_76 (n := 24) rfl; have z_k_81 := sw_ne k_81 (n := 25) rfl; have z_k_86 := sw_ne k_86 (n := 26) rfl; have z_k_91 := sw_ne k_91 (n := 27) rfl; have z_k_96 := sw_ne k_96 (n := 28) rfl; have z_k_101 := sw_ne k_101 (n := 29) rfl; have z_k_106 := sw_ne k_106 (n := 30) rfl; have z_k_111 := sw_ne k_111 (n := 31) rfl; have z_k_116 := sw_ne k_116 (n := 32) rfl; have z_k_121 := sw_ne k_121 (n := 33) rfl; have z_k_126 := sw_ne k_126 (n := 34) rfl; have z_k_131 := sw_ne k_131 (n := 35) rfl; omega) (by decide +kernel) ?_
    refine lv_iconst (v := 4) hx hb dX4_rank_140 (by decide +kernel) ?_
    subst hQ
    exact W.iret (v := 4) hx hb hr (fun t1 ht hW => ⟨⟨4, (σ, I, J, ri, rj, rq), rfl, ⟨rfl, (hF0.symm.trans hF), (rg_w (rg_k (4 : Int32) 4 rfl) (by decide +kernel))⟩, by rw [ht]; exact hP, va_K.moved hW.alike hK, hD⟩, hS.F ht⟩) hS.2.2 dX4_rank_141
  exact go _ _ _ hP hD hS hl

set_option maxRecDepth 100000 in
def g_X4_settle_L0 (a0 : Int32) (J : Nat → Int64) (rj : Nat → Nat → Int64) (rq : Nat → Nat → Option Nat) : Nat → (Nat → Int32) → (Nat → Nat → Int32) → vM
  | 0, I_279, ri_280 => (I_279, J, ri_280, rj, rq)
  | n_351 + 1, I_279, ri_280 => (ap1 (I_279 134) fun (y_359 : Int32) => (if (y_359) ≤ (0 : Int32) then (I_279, J, ri_280, rj, rq) else (ap1 ((y_359) - (1 : Int32)) fun (x_369 : Int32) => (ap1 (ri_280 133 (x_369).toNatClampNeg) fun (x_371 : Int32) => (ap1 (g_X4_rank x_371) fun (x_372 : Int32) => (if x_372 < a0 then (I_279, J, ri_280, rj, rq) else (ap1 ((y_359) - (1 : Int32)) fun (x_388 : Int32) => (ap1 (va_up I_279 134 x_388) fun (I_390 : Nat → Int32) => (ap1 (I_390 134) fun (y_395 : Int32) => (ap1 (ri_280 133 ((y_395)).toNatClampNeg) fun (x_396 : Int32) => (ap1 (-x_396) fun (x_397 : Int32) => (bnV (g_X4_emit x_397 I_390 J ri_280 rj rq) fun (I_400 : Nat → Int32) (_ : Nat → Int64) (ri_401 : Nat → Nat → Int32) (_ : Nat → Nat → Int64) (_ : Nat → Nat → Option Nat) => (if x_396 = (11 : Int32) then (ap1 (I_400 135) fun (y_419 : Int32) => (ap1 ((y_419) - (1 : Int32)) fun (x_420 : Int32) => (ap1 (va_up I_400 135 x_420) fun (I_421 : Nat → Int32) => ((g_X4_settle_L0 a0 J rj rq n_351) I_421 ri_401)))) else (if x_396 = (35 : Int32) then (ap1 (I_400 135) fun (y_433 : Int32) => (ap1 ((y_433) - (1 : Int32)) fun (x_434 : Int32) => (ap1 (va_up I_400 135 x_434) fun (I_435 : Nat → Int32) => ((g_X4_settle_L0 a0 J rj rq n_351) I_435 ri_401)))) else ((g_X4_settle_L0 a0 J rj rq n_351) I_400 ri_401)))))))))))))))
set_option maxRecDepth 100000 in
theorem g_X4_settle_L0_e {a0 : Int32} {J : Nat → Int64} {rj : Nat → Nat → Int64} {rq : Nat → Nat → Option Nat} {n_351 : Nat} {I_279 : Nat → Int32} {ri_280 : Nat → Nat → Int32} : g_X4_settle_L0 a0 J rj rq (n_351 + 1) I_279 ri_280 = (ap1 (I_279 134) fun (y_359 : Int32) => (if (y_359) ≤ (0 : Int32) then (I_279, J, ri_280, rj, rq) else (ap1 ((y_359) - (1 : Int32)) fun (x_369 : Int32) => (ap1 (ri_280 133 (x_369).toNatClampNeg) fun (x_371 : Int32) => (ap1 (g_X4_rank x_371) fun (x_372 : Int32) => (if x_372 < a0 then (I_279, J, ri_280, rj, rq) else (ap1 ((y_359) - (1 : Int32)) fun (x_388 : Int32) => (ap1 (va_up I_279 134 x_388) fun (I_390 : Nat → Int32) => (ap1 (I_390 134) fun (y_395 : Int32) => (ap1 (ri_280 133 ((y_395)).toNatClampNeg) fun (x_396 : Int32) => (ap1 (-x_396) fun (x_397 : Int32) => (bnV (g_X4_emit x_397 I_390 J ri_280 rj rq) fun (I_400 : Nat → Int32) (_ : Nat → Int64) (ri_401 : Nat → Nat → Int32) (_ : Nat → Nat → Int64) (_ : Nat → Nat → Option Nat) => (if x_396 = (11 : Int32) then (ap1 (I_400 135) fun (y_419 : Int32) => (ap1 ((y_419) - (1 : Int32)) fun (x_420 : Int32) => (ap1 (va_up I_400 135 x_420) fun (I_421 : Nat → Int32) => ((g_X4_settle_L0 a0 J rj rq n_351) I_421 ri_401)))) else (if x_396 = (35 : Int32) then (ap1 (I_400 135) fun (y_433 : Int32) => (ap1 ((y_433) - (1 : Int32)) fun (x_434 : Int32) => (ap1 (va_up I_400 135 x_434) fun (I_435 : Nat → Int32) => ((g_X4_settle_L0 a0 J rj rq n_351) I_435 ri_401)))) else ((g_X4_settle_L0 a0 J rj rq n_351) I_400 ri_401))))))))))))))) := rfl
set_option maxRecDepth 100000 in
def g_X4_settle_L0_2 (a0 : Int32) (J : Nat → Int64) (rj : Nat → Nat → Int64) (rq : Nat → Nat → Option Nat) : Nat → (Nat → Int32) → (Nat → Nat → Int32) → vM
  | 0, I_656, ri_657 => (I_656, J, ri_657, rj, rq)
  | n_728 + 1, I_656, ri_657 => (ap1 (I_656 134) fun (y_736 : Int32) => (if (y_736) ≤ (0 : Int32) then (I_656, J, ri_657, rj, rq) else (ap1 ((y_736) - (1 : Int32)) fun (x_746 : Int32) => (ap1 (ri_657 133 (x_746).toNatClampNeg) fun (x_748 : Int32) => (ap1 (g_X4_rank x_748) fun (x_749 : Int32) => (if x_749 < a0 then (I_656, J, ri_657, rj, rq) else (ap1 ((y_736) - (1 : Int32)) fun (x_765 : Int32) => (ap1 (va_up I_656 134 x_765) fun (I_767 : Nat → Int32) => (ap1 (I_767 134) fun (y_772 : Int32) => (ap1 (ri_657 133 ((y_772)).toNatClampNeg) fun (x_773 : Int32) => (ap1 (-x_773) fun (x_774 : Int32) => (bnV (g_X4_emit x_774 I_767 J ri_657 rj rq) fun (I_777 : Nat → Int32) (_ : Nat → Int64) (ri_778 : Nat → Nat → Int32) (_ : Nat → Nat → Int64) (_ : Nat → Nat → Option Nat) => (if x_773 = (11 : Int32) then (ap1 (I_777 135) fun (y_796 : Int32) => (ap1 ((y_796) - (1 : Int32)) fun (x_797 : Int32) => (ap1 (va_up I_777 135 x_797) fun (I_798 : Nat → Int32) => ((g_X4_settle_L0_2 a0 J rj rq n_728) I_798 ri_778)))) else (if x_773 = (35 : Int32) then (ap1 (I_777 135) fun (y_810 : Int32) => (ap1 ((y_810) - (1 : Int32)) fun (x_811 : Int32) => (ap1 (va_up I_777 135 x_811) fun (I_812 : Nat → Int32) => ((g_X4_settle_L0_2 a0 J rj rq n_728) I_812 ri_778)))) else ((g_X4_settle_L0_2 a0 J rj rq n_728) I_777 ri_778)))))))))))))))
set_option maxRecDepth 100000 in
theorem g_X4_settle_L0_2_e {a0 : Int32} {J : Nat → Int64} {rj : Nat → Nat → Int64} {rq : Nat → Nat → Option Nat} {n_728 : Nat} {I_656 : Nat → Int32} {ri_657 : Nat → Nat → Int32} : g_X4_settle_L0_2 a0 J rj rq (n_728 + 1) I_656 ri_657 = (ap1 (I_656 134) fun (y_736 : Int32) => (if (y_736) ≤ (0 : Int32) then (I_656, J, ri_657, rj, rq) else (ap1 ((y_736) - (1 : Int32)) fun (x_746 : Int32) => (ap1 (ri_657 133 (x_746).toNatClampNeg) fun (x_748 : Int32) => (ap1 (g_X4_rank x_748) fun (x_749 : Int32) => (if x_749 < a0 then (I_656, J, ri_657, rj, rq) else (ap1 ((y_736) - (1 : Int32)) fun (x_765 : Int32) => (ap1 (va_up I_656 134 x_765) fun (I_767 : Nat → Int32) => (ap1 (I_767 134) fun (y_772 : Int32) => (ap1 (ri_657 133 ((y_772)).toNatClampNeg) fun (x_773 : Int32) => (ap1 (-x_773) fun (x_774 : Int32) => (bnV (g_X4_emit x_774 I_767 J ri_657 rj rq) fun (I_777 : Nat → Int32) (_ : Nat → Int64) (ri_778 : Nat → Nat → Int32) (_ : Nat → Nat → Int64) (_ : Nat → Nat → Option Nat) => (if x_773 = (11 : Int32) then (ap1 (I_777 135) fun (y_796 : Int32) => (ap1 ((y_796) - (1 : Int32)) fun (x_797 : Int32) => (ap1 (va_up I_777 135 x_797) fun (I_798 : Nat → Int32) => ((g_X4_settle_L0_2 a0 J rj rq n_728) I_798 ri_778)))) else (if x_773 = (35 : Int32) then (ap1 (I_777 135) fun (y_810 : Int32) => (ap1 ((y_810) - (1 : Int32)) fun (x_811 : Int32) => (ap1 (va_up I_777 135 x_811) fun (I_812 : Nat → Int32) => ((g_X4_settle_L0_2 a0 J rj rq n_728) I_812 ri_778)))) else ((g_X4_settle_L0_2 a0 J rj rq n_728) I_777 ri_778))))))))))))))) := rfl
set_option maxRecDepth 100000 in
def g_X4_settle_L0_3 (a0 : Int32) (J : Nat → Int64) (rj : Nat → Nat → Int64) (rq : Nat → Nat → Option Nat) : Nat → (Nat → Int32) → (Nat → Nat → Int32) → vM
  | 0, I_1035, ri_1036 => (I_1035, J, ri_1036, rj, rq)
  | n_1107 + 1, I_1035, ri_1036 => (ap1 (I_1035 134) fun (y_1115 : Int32) => (if (y_1115) ≤ (0 : Int32) then (I_1035, J, ri_1036, rj, rq) else (ap1 ((y_1115) - (1 : Int32)) fun (x_1125 : Int32) => (ap1 (ri_1036 133 (x_1125).toNatClampNeg) fun (x_1127 : Int32) => (ap1 (g_X4_rank x_1127) fun (x_1128 : Int32) => (if x_1128 < a0 then (I_1035, J, ri_1036, rj, rq) else (ap1 ((y_1115) - (1 : Int32)) fun (x_1144 : Int32) => (ap1 (va_up I_1035 134 x_1144) fun (I_1146 : Nat → Int32) => (ap1 (I_1146 134) fun (y_1151 : Int32) => (ap1 (ri_1036 133 ((y_1151)).toNatClampNeg) fun (x_1152 : Int32) => (ap1 (-x_1152) fun (x_1153 : Int32) => (bnV (g_X4_emit x_1153 I_1146 J ri_1036 rj rq) fun (I_1156 : Nat → Int32) (_ : Nat → Int64) (ri_1157 : Nat → Nat → Int32) (_ : Nat → Nat → Int64) (_ : Nat → Nat → Option Nat) => (if x_1152 = (11 : Int32) then (ap1 (I_1156 135) fun (y_1175 : Int32) => (ap1 ((y_1175) - (1 : Int32)) fun (x_1176 : Int32) => (ap1 (va_up I_1156 135 x_1176) fun (I_1177 : Nat → Int32) => ((g_X4_settle_L0_3 a0 J rj rq n_1107) I_1177 ri_1157)))) else (if x_1152 = (35 : Int32) then (ap1 (I_1156 135) fun (y_1189 : Int32) => (ap1 ((y_1189) - (1 : Int32)) fun (x_1190 : Int32) => (ap1 (va_up I_1156 135 x_1190) fun (I_1191 : Nat → Int32) => ((g_X4_settle_L0_3 a0 J rj rq n_1107) I_1191 ri_1157)))) else ((g_X4_settle_L0_3 a0 J rj rq n_1107) I_1156 ri_1157)))))))))))))))
set_option maxRecDepth 100000 in
theorem g_X4_settle_L0_3_e {a0 : Int32} {J : Nat → Int64} {rj : Nat → Nat → Int64} {rq : Nat → Nat → Option Nat} {n_1107 : Nat} {I_1035 : Nat → Int32} {ri_1036 : Nat → Nat → Int32} : g_X4_settle_L0_3 a0 J rj rq (n_1107 + 1) I_1035 ri_1036 = (ap1 (I_1035 134) fun (y_1115 : Int32) => (if (y_1115) ≤ (0 : Int32) then (I_1035, J, ri_1036, rj, rq) else (ap1 ((y_1115) - (1 : Int32)) fun (x_1125 : Int32) => (ap1 (ri_1036 133 (x_1125).toNatClampNeg) fun (x_1127 : Int32) => (ap1 (g_X4_rank x_1127) fun (x_1128 : Int32) => (if x_1128 < a0 then (I_1035, J, ri_1036, rj, rq) else (ap1 ((y_1115) - (1 : Int32)) fun (x_1144 : Int32) => (ap1 (va_up I_1035 134 x_1144) fun (I_1146 : Nat → Int32) => (ap1 (I_1146 134) fun (y_1151 : Int32) => (ap1 (ri_1036 133 ((y_1151)).toNatClampNeg) fun (x_1152 : Int32) => (ap1 (-x_1152) fun (x_1153 : Int32) => (bnV (g_X4_emit x_1153 I_1146 J ri_1036 rj rq) fun (I_1156 : Nat → Int32) (_ : Nat → Int64) (ri_1157 : Nat → Nat → Int32) (_ : Nat → Nat → Int64) (_ : Nat → Nat → Option Nat) => (if x_1152 = (11 : Int32) then (ap1 (I_1156 135) fun (y_1175 : Int32) => (ap1 ((y_1175) - (1 : Int32)) fun (x_1176 : Int32) => (ap1 (va_up I_1156 135 x_1176) fun (I_1177 : Nat → Int32) => ((g_X4_settle_L0_3 a0 J rj rq n_1107) I_1177 ri_1157)))) else (if x_1152 = (35 : Int32) then (ap1 (I_1156 135) fun (y_1189 : Int32) => (ap1 ((y_1189) - (1 : Int32)) fun (x_1190 : Int32) => (ap1 (va_up I_1156 135 x_1190) fun (I_1191 : Nat → Int32) => ((g_X4_settle_L0_3 a0 J rj rq n_1107) I_1191 ri_1157)))) else ((g_X4_settle_L0_3 a0 J rj rq n_1107) I_1156 ri_1157))))))))))))))) := rfl
set_option maxRecDepth 100000 in
def g_X4_settle (a0 : Int32) (I : Nat → Int32) (J : Nat → Int64) (ri : Nat → Nat → Int32) (rj : Nat → Nat → Int64) (rq : Nat → Nat → Option Nat) : vM := (ap1 (I 134) fun (y_2 : Int32) => (if (y_2) ≤ (0 : Int32) then (I, J, ri, rj, rq) else (ap1 ((y_2) - (1 : Int32)) fun (x_13 : Int32) => (ap1 (ri 133 (x_13).toNatClampNeg) fun (x_15 : Int32) => (ap1 (g_X4_rank x_15) fun (x_16 : Int32) => (if x_16 < a0 then (I, J, ri, rj, rq) else (ap1 ((y_2) - (1 : Int32)) fun (x_32 : Int32) => (ap1 (va_up I 134 x_32) fun (I_34 : Nat → Int32) => (ap1 (I_34 134) fun (y_39 : Int32) => (ap1 (ri 133 ((y_39)).toNatClampNeg) fun (x_40 : Int32) => (ap1 (-x_40) fun (x_41 : Int32) => (bnV (g_X4_emit x_41 I_34 J ri rj rq) fun (I_44 : Nat → Int32) (_ : Nat → Int64) (ri_45 : Nat → Nat → Int32) (_ : Nat → Nat → Int64) (_ : Nat → Nat → Option Nat) => (if x_40 = (11 : Int32) then (ap1 (I_44 135) fun (y_63 : Int32) => (ap1 ((y_63) - (1 : Int32)) fun (x_64 : Int32) => (ap1 (va_up I_44 135 x_64) fun (I_65 : Nat → Int32) => (ap1 (I_65 134) fun (y_439 : Int32) => (g_X4_settle_L0 a0 J rj rq (((y_439).toInt - 0).toNat + 1) I_65 ri_45))))) else (if x_40 = (35 : Int32) then (ap1 (I_44 135) fun (y_819 : Int32) => (ap1 ((y_819) - (1 : Int32)) fun (x_820 : Int32) => (ap1 (va_up I_44 135 x_820) fun (I_821 : Nat → Int32) => (ap1 (I_821 134) fun (y_1195 : Int32) => (g_X4_settle_L0_3 a0 J rj rq (((y_1195).toInt - 0).toNat + 1) I_821 ri_45))))) else (ap1 (I_44 134) fun (y_816 : Int32) => (g_X4_settle_L0_2 a0 J rj rq (((y_816).toInt - 0).toNat + 1) I_44 ri_45))))))))))))))))
set_option maxRecDepth 100000 in
theorem g_X4_settle_e {a0 : Int32} {I : Nat → Int32} {J : Nat → Int64} {ri : Nat → Nat → Int32} {rj : Nat → Nat → Int64} {rq : Nat → Nat → Option Nat} : g_X4_settle a0 I J ri rj rq = (ap1 (I 134) fun (y_2 : Int32) => (if (y_2) ≤ (0 : Int32) then (I, J, ri, rj, rq) else (ap1 ((y_2) - (1 : Int32)) fun (x_13 : Int32) => (ap1 (ri 133 (x_13).toNatClampNeg) fun (x_15 : Int32) => (ap1 (g_X4_rank x_15) fun (x_16 : Int32) => (if x_16 < a0 then (I, J, ri, rj, rq) else (ap1 ((y_2) - (1 : Int32)) fun (x_32 : Int32) => (ap1 (va_up I 134 x_32) fun (I_34 : Nat → Int32) => (ap1 (I_34 134) fun (y_39 : Int32) => (ap1 (ri 133 ((y_39)).toNatClampNeg) fun (x_40 : Int32) => (ap1 (-x_40) fun (x_41 : Int32) => (bnV (g_X4_emit x_41 I_34 J ri rj rq) fun (I_44 : Nat → Int32) (_ : Nat → Int64) (ri_45 : Nat → Nat → Int32) (_ : Nat → Nat → Int64) (_ : Nat → Nat → Option Nat) => (if x_40 = (11 : Int32) then (ap1 (I_44 135) fun (y_63 : Int32) => (ap1 ((y_63) - (1 : Int32)) fun (x_64 : Int32) => (ap1 (va_up I_44 135 x_64) fun (I_65 : Nat → Int32) => (ap1 (I_65 134) fun (y_439 : Int32) => (g_X4_settle_L0 a0 J rj rq (((y_439).toInt - 0).toNat + 1) I_65 ri_45))))) else (if x_40 = (35 : Int32) then (ap1 (I_44 135) fun (y_819 : Int32) => (ap1 ((y_819) - (1 : Int32)) fun (x_820 : Int32) => (ap1 (va_up I_44 135 x_820) fun (I_821 : Nat → Int32) => (ap1 (I_821 134) fun (y_1195 : Int32) => (g_X4_settle_L0_3 a0 J rj rq (((y_1195).toInt - 0).toNat + 1) I_821 ri_45))))) else (ap1 (I_44 134) fun (y_816 : Int32) => (g_X4_settle_L0_2 a0 J rj rq (((y_816).toInt - 0).toNat + 1) I_44 ri_45)))))))))))))))) := rfl
set_option maxHeartbeats 4000000 in
set_option maxRecDepth 100000 in
theorem s_X4_settle (l : Launch) (D : va_G) (t : pq_T) (σ : pq_S) (I : Nat → Nat → Int32) (J : Nat → Nat → Int64) (ri : Nat → Nat → Int32) (rj : Nat → Nat → Int64) (rq : Nat → Nat → Option Nat) (sz : Nat) (tg : Nat → Nat) (hSH : SH σ tg) (hG0 : GS tg σ I ri rq) (this : Nat) (a0 : Int32) (hL_this : this ∈ σ.1) (hK_this : σ.2.1 this = 4) : MetV l yX4_settle (wa yX4_settle cX4_settle 3 none) ({ frames := 1, cells := 0, slots := 0, locals := 21 }) [.ref this, .int a0] D t σ (I, J, ri, rj, rq) sz 0 0 (fun (u : pq_S × pq_M) => ∃ I' : Nat → Nat → Int32, ∃ ri' : Nat → Nat → Int32, u = (σ, I', J, ri', rj, rq) ∧ GX [132, 134] tg σ I ri rj I' ri' rj rq ∧ ((I' 132 this).toInt + (I' 134 this).toInt ≤ (I 132 this).toInt + (I 134 this).toInt) ∧ (∀ q, tg q = 258 → ri' q = ri q) ∧ g_X4_settle a0 (vI 4 σ this I) (vJ 4 σ this J) (vR 4 σ this ri) (vL 4 σ this rj) (vQ 4 σ this rq) = ((vI 4 σ this I'), (vJ 4 σ this J), (vR 4 σ this ri'), (vL 4 σ this rj), (vQ 4 σ this rq)) ∧ FR 4 tg σ this (I, J, ri, rj, rq) (I', J, ri', rj, rq)) := by
  refine Met.ofW (cc := cX4_settle) (maxL := 3) (ret := none) (by decide +kernel) rfl ?_
  intro p e s m args below meth c s₁ B hml hv
  obtain ⟨rfl, hsz, hP, hK, hD0, hN⟩ := hv
  have hx := B.exec
  have hb := B.bytes
  have hr := B.returns
  have hts := atoms_spec (ws := (wa yX4_settle cX4_settle 3 none)) B.pre
  have hown : s.vm.findClass RX4 = some m.cls := findClass_of_methodNamed B.named
  have hlocks := B.notSynchronized
  subst hsz
  have hD : va_D (pq_B t σ (I, J, ri, rj, rq) s.heap.size) (pq_P t σ (I, J, ri, rj, rq)) := hD0.self
  generalize hAe : pq_B t σ (I, J, ri, rj, rq) s.heap.size = A at hD ⊢
  have hA : ∀ q : Nat, s.heap.size ≤ q → A q := fun q h => by rw [← hAe]; exact Or.inr h
  have hS : va_S A s.heap s.heap [] := va_S.rf
  have hG : GX [132, 134] tg σ I ri rj I ri rj rq := ⟨hG0, fun _ _ _ => rfl, fun _ _ _ _ _ => rfl, fun _ _ _ _ _ => rfl⟩
  have hl := lv_entry ([.ref this, .int a0]) (n := 3) (Nat.le_of_ble_eq_true rfl)
  rw [lg_entry_eq]
  generalize (lg_sl ([.ref this, .int a0]) ++ List.replicate (3 - (lg_sl ([.ref this, .int a0])).length) Slot.unset).toArray = ls at hl ⊢
  have hl : lv_has ls 3 [(0, .ref this), (1, .int a0)] := hl
  refine q_gen (fun Q hQ => ?_)
  have go : ∀ (H : Heap) (locs : List Loc) (ls : Array Slot), va_P D vwCl (pq_P t σ (I, J, ri, rj, rq)) H → va_D A (pq_P t σ (I, J, ri, rj, rq)) → va_S A s.heap H locs → lv_has ls 3 [(0, .ref this), (1, .int a0)] → W p l e ({ frames := 1, cells := 0, slots := 0, locals := 21 } : Room) s m (List.toArray ([.ref this, .int a0] : List Value)) below meth c H locs 0 0 Q (F0 m 0 ls []) := by
    intro H locs ls hP hD hS hl
    have hO_this : this = vo σ 4 this := rfl
    have hVT : VT 4 σ tg this := vt_4 hSH hL_this hK_this
    have hFr : FR 4 tg σ this (I, J, ri, rj, rq) (I, J, ri, rj, rq) := fr_rf
    obtain ⟨F, hF0⟩ : ∃ F, F = g_X4_settle a0 (vI 4 σ this I) (vJ 4 σ this J) (vR 4 σ this ri) (vL 4 σ this rj) (vQ 4 σ this rq) := ⟨_, rfl⟩
    have hF := hF0.trans g_X4_settle_e
    refine lv_aload_n hx hb dX4_settle_0 rfl (lv_at hl 0 rfl) ?_
    refine pg_f (v := .int (I 134 this)) (C := RX4) (T := TX4) (N := 12) hx hb hts (tw_i inlX4) hown hK hP hL_this hK_this (by decide +kernel) rfl 6 (by decide +kernel) (hts _ (tw_c tw_758)) rfl dX4_settle_1 ?_
    have h_1 : rg (I 134 this) 0 40 := GX.rI hG 134 rfl
    have uh_1 := h_1.1
    have vh_1 := h_1.2
    replace hF := hF.trans (ap_n (vI_e (f := 134) hO_this (by decide +kernel)))
    refine lv_if_le (tgt := 76) hx hb dX4_settle_4 (by decide +kernel) (fun c_3 => ?_) (fun c_3 => ?_)
    · replace hF := hF.trans (if_pos c_3)
      have tc_8 : (I 134 this).toInt ≤ 0 := Int32.le_iff_toInt_le.mp c_3
      have h_9 : rg (I 134 this) 0 0 := rg_le1 c_3 h_1 (rg_k (0 : Int32) 0 rfl) (by decide +kernel)
      have uh_9 := h_9.1
      have vh_9 := h_9.2
      subst hQ
      exact W.vret hx hb hr (fun t1 ht hW => ⟨⟨(σ, I, J, ri, rj, rq), rfl, ⟨I, ri, rfl, hG, (by omega), (fun _ _ => rfl), (hF0.symm.trans hF), hFr⟩, by rw [ht]; exact hP, va_K.moved hW.alike hK, hD⟩, hS.F ht⟩) hS.2.2 dX4_settle_76
    · replace hF := hF.trans (if_neg c_3)
      have tc_10 : 0 < (I 134 this).toInt := Int32.lt_iff_toInt_lt.mp (nle c_3)
      have h_11 : rg (I 134 this) 1 40 := rg_lt2 (nle c_3) (rg_k (0 : Int32) 0 rfl) h_1 (by decide +kernel)
      have uh_11 := h_11.1
      have vh_11 := h_11.2
      refine lv_aload_n hx hb dX4_settle_7 rfl (lv_at hl 0 rfl) ?_
      obtain ⟨w_12, hR_w_12, hL_w_12, hK_w_12, hN_w_12, hT_w_12⟩ := sh_a hSH 133 (ci := 4) (kd := 13) (len := 40) rfl (by decide +kernel) hL_this hK_this
      have hO_w_12 : w_12 = vrow σ 133 this := vo_k (c := 4) hO_this hR_w_12
      refine pg_f (v := .ref w_12) (C := RX4) (T := TX4) (N := 12) hx hb hts (tw_i inlX4) hown hK hP hL_this hK_this (by decide +kernel) rfl 5 (by decide +kernel) (hts _ (tw_c tw_161)) (pq_hv rfl hR_w_12) dX4_settle_8 ?_
      refine lv_aload_n hx hb dX4_settle_11 rfl (lv_at hl 0 rfl) ?_
      refine pg_f (v := .int (I 134 this)) (C := RX4) (T := TX4) (N := 12) hx hb hts (tw_i inlX4) hown hK hP hL_this hK_this (by decide +kernel) rfl 6 (by decide +kernel) (hts _ (tw_c tw_758)) rfl dX4_settle_12 ?_
      refine lv_iconst (v := 1) hx hb dX4_settle_15 (by decide +kernel) ?_
      refine lv_isub hx hb dX4_settle_16 ?_
      refine lv_topi (fun x_13 ex_13 => ?_)
      replace hF := hF.trans (ap_n ex_13)
      have h_14 : rg x_13 0 39 := rg_of_eq ex_13 (rg_sub h_11 (rg_k (1 : Int32) 1 rfl) (by decide +kernel))
      have uh_14 := h_14.1
      have vh_14 := h_14.2
      have tx_13 : (x_13).toInt = (I 134 this).toInt - 1 := by rw [ex_13]; exact i_sub_rg (a2 := (I 134 this).toInt) (b2 := 1) rfl rfl h_11 (rg_k (1 : Int32) 1 rfl) (by decide +kernel)
      refine pl_i hx hb hK hP hL_w_12 hK_w_12 hN_w_12 (rg_in h_14 (by decide +kernel)) dX4_settle_17 ?_
      refine lv_topi (fun x_15 ex_15 => ?_)
      replace hF := hF.trans (ap_n (vR_r hO_w_12 (by decide +kernel) ex_15))
      refine pk_i (va_runS (As := [.int x_15]) (rest := []) ⟨hx, hb, hml, hown, hts⟩ (s_X4_rank l D t σ I J ri rj rq H.size tg hSH hG.1 x_15) (va_cwS 1 hts (tw_S tw_790 tw_791 tw_25 tw_792) rfl rfl rfl cd_yX4_rank_1 ⟨Nat.le_of_ble_eq_true rfl, Nat.le_of_ble_eq_true rfl⟩) ⟨pq_blind, pq_pre hK hN hP hD⟩ rfl rfl hl.1 rfl (lv_room (Nat.le_of_ble_eq_true rfl)) dX4_settle_18 ⟨Nat.le_of_ble_eq_true rfl, Nat.le_of_ble_eq_true rfl⟩) hD hS hA (fun x_16 σ1 μ1 H locs hw_17 hP hD hS => ?_)
      obtain ⟨hu_18, hfn_21, hr_20⟩ := hw_17
      obtain ⟨hu_18a, hu_18b⟩ := Prod.mk.inj hu_18
      rw [hu_18a, hu_18b] at hP hD
      replace hF := hF.trans (ap_n hfn_21.symm)
      refine lv_iload_n hx hb dX4_settle_21 rfl (lv_at hl 1 rfl) ?_
      refine lv_icmp_lt (tgt := 76) hx hb dX4_settle_22 (by decide +kernel) (fun c_23 => ?_) (fun c_23 => ?_)
      · replace hF := hF.trans (if_pos c_23)
        have tc_28 : (x_16).toInt < (a0).toInt := Int32.lt_iff_toInt_lt.mp c_23
        have h_29 : rg a0 1 2147483647 := rg_lt2 c_23 hr_20 (rg_full _) (by decide +kernel)
        have uh_29 := h_29.1
        have vh_29 := h_29.2
        subst hQ
        exact W.vret hx hb hr (fun t1 ht hW => ⟨⟨(σ, I, J, ri, rj, rq), rfl, ⟨I, ri, rfl, hG, (by omega), (fun _ _ => rfl), (hF0.symm.trans hF), hFr⟩, by rw [ht]; exact hP, va_K.moved hW.alike hK, hD⟩, hS.F ht⟩) hS.2.2 dX4_settle_76
      · replace hF := hF.trans (if_neg c_23)
        have tc_30 : (a0).toInt ≤ (x_16).toInt := Int32.le_iff_toInt_le.mp (nlt c_23)
        have h_31 : rg a0 (-2147483648) 7 := rg_le1 (nlt c_23) (rg_full _) hr_20 (by decide +kernel)
        have uh_31 := h_31.1
        have vh_31 := h_31.2
        refine lv_aload_n hx hb dX4_settle_25 rfl (lv_at hl 0 rfl) ?_
        refine lv_dup hx hb dX4_settle_26 rfl ?_
        refine pg_f (v := .int (I 134 this)) (C := RX4) (T := TX4) (N := 12) hx hb hts (tw_i inlX4) hown hK hP hL_this hK_this (by decide +kernel) rfl 6 (by decide +kernel) (hts _ (tw_c tw_758)) rfl dX4_settle_27 ?_
        refine lv_iconst (v := 1) hx hb dX4_settle_30 (by decide +kernel) ?_
        refine lv_isub hx hb dX4_settle_31 ?_
        refine lv_topi (fun x_32 ex_32 => ?_)
        replace hF := hF.trans (ap_n ex_32)
        have h_33 : rg x_32 0 39 := rg_of_eq ex_32 (rg_sub h_11 (rg_k (1 : Int32) 1 rfl) (by decide +kernel))
        have uh_33 := h_33.1
        have vh_33 := h_33.2
        have tx_32 : (x_32).toInt = (I 134 this).toInt - 1 := by rw [ex_32]; exact i_sub_rg (a2 := (I 134 this).toInt) (b2 := 1) rfl rfl h_11 (rg_k (1 : Int32) 1 rfl) (by decide +kernel)
        refine pp_i (v := x_32) (ty := .int) (C := RX4) (T := TX4) (N := 12) hx hb hts (tw_i inlX4) tyX4 tyX4_ok nmX4 hown hK hP hD hS hL_this hK_this (by decide +kernel) rfl 6 134 (by decide +kernel) (hts _ (tw_c tw_758)) rfl (tyX4_ok 6 (by decide +kernel)) rfl rfl (Nat.le_of_ble_eq_true rfl) (ps_134 _ _ _ _ _) dX4_settle_32 (fun I_34 H locs eI_34 hP hD hS => ?_)
        replace hFr := fr_I (f := 134) hFr hO_this (by decide +kernel) eI_34
        replace hF := hF.trans (ap_n (vI_st (f := 134) hO_this (by decide +kernel) eI_34))
        have hG := GX.wI hG 134 rfl eI_34 (rg_w h_33 (by decide +kernel)) (by decide +kernel)
        have tt_35 : (I_34 132 this).toInt = (I 132 this).toInt := by rw [eI_34, pq_uf _ _ _ (by decide +kernel)]
        have tt_36 : (I_34 134 this).toInt = (x_32).toInt := by rw [eI_34, pq_us]
        have tt_37 : (I_34 129 this).toInt = (I 129 this).toInt := by rw [eI_34, pq_uf _ _ _ (by decide +kernel)]
        refine lv_aload_n hx hb dX4_settle_35 rfl (lv_at hl 0 rfl) ?_
        refine pg_f (v := .ref w_12) (C := RX4) (T := TX4) (N := 12) hx hb hts (tw_i inlX4) hown hK hP hL_this hK_this (by decide +kernel) rfl 5 (by decide +kernel) (hts _ (tw_c tw_161)) (pq_hv rfl hR_w_12) dX4_settle_36 ?_
        refine lv_aload_n hx hb dX4_settle_39 rfl (lv_at hl 0 rfl) ?_
        refine pg_f (v := .int (I_34 134 this)) (C := RX4) (T := TX4) (N := 12) hx hb hts (tw_i inlX4) hown hK hP hL_this hK_this (by decide +kernel) rfl 6 (by decide +kernel) (hts _ (tw_c tw_758)) rfl dX4_settle_40 ?_
        have h_38 : rg (I_34 134 this) 0 39 := (by rw [eI_34, pq_us]; exact h_33)
        have uh_38 := h_38.1
        have vh_38 := h_38.2
        replace hF := hF.trans (ap_n (vI_e (f := 134) hO_this (by decide +kernel)))
        refine pl_i hx hb hK hP hL_w_12 hK_w_12 hN_w_12 (rg_in h_38 (by decide +kernel)) dX4_settle_43 ?_
        refine lv_topi (fun x_40 ex_40 => ?_)
        replace hF := hF.trans (ap_n (vR_r hO_w_12 (by decide +kernel) ex_40))
        refine lv_istore_n (lv' := [(2, .int x_40), (0, .ref this), (1, .int a0)]) hx hb dX4_settle_44 rfl hl (by decide +kernel) rfl (fun ls hl => ?_)
        refine lv_aload_n hx hb dX4_settle_45 rfl (lv_at hl 1 rfl) ?_
        refine lv_iload_n hx hb dX4_settle_46 rfl (lv_at hl 0 rfl) ?_
        refine lv_ineg hx hb dX4_settle_47 ?_
        refine lv_topi (fun x_41 ex_41 => ?_)
        replace hF := hF.trans (ap_n ex_41)
        refine pk_v (va_runV (As := [.int x_41]) (rest := []) ⟨hx, hb, hml, hown, hts⟩ (s_X4_emit l D t σ I_34 J ri rj rq H.size tg hSH hG.1 this x_41 hL_this hK_this) (cwV 1 hts (tw_V tw_769 tw_770 tw_771 tw_25 tw_772) rfl rfl rfl cv_yX4_emit_1 ⟨Nat.le_of_ble_eq_true rfl, Nat.le_of_ble_eq_true rfl⟩) ⟨pq_blind, pq_recv hK hP hL_this hK_this (by decide +kernel) rfl, pq_pre hK hN hP hD⟩ rfl rfl hl.1 rfl (lv_room (Nat.le_of_ble_eq_true rfl)) dX4_settle_48 ⟨Nat.le_of_ble_eq_true rfl, Nat.le_of_ble_eq_true rfl⟩) hD hS hA (fun σ1 μ1 H locs hw_43 hP hD hS => ?_)
        obtain ⟨I_44, ri_45, hu_46, hg_47, hp_49, hp_50, hfn_51, hfr_52⟩ := hw_43
        obtain ⟨hu_46a, hu_46b⟩ := Prod.mk.inj hu_46
        rw [hu_46a, hu_46b] at hP hD
        replace hF := hF.trans (bv_n hfn_51)
        replace hFr := fr_tr hFr hfr_52
        have tt_53 := hp_49
        have tt_54 := hp_50
        have hG := GX.tr hG hg_47 (by decide +kernel)
        have tt_55 : (I_44 134 this).toInt = (I_34 134 this).toInt := by rw [hg_47.2.1 134 (by decide +kernel) (by decide +kernel)]
        have tt_56 : (I_44 129 this).toInt = (I_34 129 this).toInt := by rw [hg_47.2.1 129 (by decide +kernel) (by decide +kernel)]
        refine lv_iload_n hx hb dX4_settle_51 rfl (lv_at hl 0 rfl) ?_
        refine lv_bipush (v := 11) hx hb dX4_settle_52 (by decide +kernel) ?_
        refine lv_icmp_eq (tgt := 63) hx hb dX4_settle_54 (by decide +kernel) (fun c_57 => ?_) (fun c_57 => ?_)
        · replace hF := hF.trans (if_pos c_57)
          have tc_61 : (x_40).toInt = 11 := congrArg Int32.toInt c_57
          have h_62 : rg x_40 11 11 := rg_and (rg_full _) (rg_of_eq c_57 (rg_k (11 : Int32) 11 rfl)) (by decide +kernel)
          have uh_62 := h_62.1
          have vh_62 := h_62.2
          refine lv_aload_n hx hb dX4_settle_63 rfl (lv_at hl 1 rfl) ?_
          refine lv_dup hx hb dX4_settle_64 rfl ?_
          refine pg_f (v := .int (I_44 135 this)) (C := RX4) (T := TX4) (N := 12) hx hb hts (tw_i inlX4) hown hK hP hL_this hK_this (by decide +kernel) rfl 7 (by decide +kernel) (hts _ (tw_c tw_759)) rfl dX4_settle_65 ?_
          replace hF := hF.trans (ap_n (vI_e (f := 135) hO_this (by decide +kernel)))
          refine lv_iconst (v := 1) hx hb dX4_settle_68 (by decide +kernel) ?_
          refine lv_isub hx hb dX4_settle_69 ?_
          refine lv_topi (fun x_64 ex_64 => ?_)
          replace hF := hF.trans (ap_n ex_64)
          refine pp_i (v := x_64) (ty := .int) (C := RX4) (T := TX4) (N := 12) hx hb hts (tw_i inlX4) tyX4 tyX4_ok nmX4 hown hK hP hD hS hL_this hK_this (by decide +kernel) rfl 7 135 (by decide +kernel) (hts _ (tw_c tw_759)) rfl (tyX4_ok 7 (by decide +kernel)) rfl rfl (Nat.le_of_ble_eq_true rfl) (ps_135 _ _ _ _ _) dX4_settle_70 (fun I_65 H locs eI_65 hP hD hS => ?_)
          replace hFr := fr_I (f := 135) hFr hO_this (by decide +kernel) eI_65
          replace hF := hF.trans (ap_n (vI_st (f := 135) hO_this (by decide +kernel) eI_65))
          have hG := GX.wI hG 135 rfl eI_65 (rg_w (rg_full _) (by decide +kernel)) (by decide +kernel)
          have tt_66 : (I_65 132 this).toInt = (I_44 132 this).toInt := by rw [eI_65, pq_uf _ _ _ (by decide +kernel)]
          have tt_67 : (I_65 134 this).toInt = (I_44 134 this).toInt := by rw [eI_65, pq_uf _ _ _ (by decide +kernel)]
          have tt_68 : (I_65 129 this).toInt = (I_44 129 this).toInt := by rw [eI_65, pq_uf _ _ _ (by decide +kernel)]
          refine lv_goto (tgt := 0) hx hb dX4_settle_73 (by decide +kernel) ?_
          have L_352 : ∀ (n_351 : Nat) (I_279 : Nat → Nat → Int32) (ri_280 : Nat → Nat → Int32) (H : Heap) (locs : List Loc) (ls : Array Slot), ((I_279 132 this).toInt + (I_279 134 this).toInt ≤ (I 132 this).toInt + (I 134 this).toInt) → (∀ q, tg q = 258 → ri_280 q = ri q) → ((I_279 134 this).toInt - 0).toNat < n_351 → F = g_X4_settle_L0 a0 (vJ 4 σ this J) (vL 4 σ this rj) (vQ 4 σ this rq) n_351 (vI 4 σ this I_279) (vR 4 σ this ri_280) → FR 4 tg σ this (I, J, ri, rj, rq) (I_279, J, ri_280, rj, rq) → GX [132, 134] tg σ I ri rj I_279 ri_280 rj rq → va_P D vwCl (pq_P t σ (I_279, J, ri_280, rj, rq)) H → va_D A (pq_P t σ (I_279, J, ri_280, rj, rq)) → va_S A s.heap H locs → lv_has ls 3 [(0, .ref this), (1, .int a0)] → W p l e ({ frames := 1, cells := 0, slots := 0, locals := 21 } : Room) s m (List.toArray ([.ref this, .int a0] : List Value)) below meth c H locs 0 0 Q (F0 m 0 ls []) := by
            intro n_351
            induction n_351 with
            | zero => intro I_279 ri_280 H locs ls hrel_356 hrel_357 hm_350 hF hFr hG hP hD hS hl; exact absurd hm_350 (Nat.not_lt_zero _)
            | succ n_351 ih_353 =>
              intro I_279 ri_280 H locs ls hrel_356 hrel_357 hm_350 hF hFr hG hP hD hS hl
              replace hF := hF.trans g_X4_settle_L0_e
              refine lv_aload_n hx hb dX4_settle_0 rfl (lv_at hl 0 rfl) ?_
              refine pg_f (v := .int (I_279 134 this)) (C := RX4) (T := TX4) (N := 12) hx hb hts (tw_i inlX4) hown hK hP hL_this hK_this (by decide +kernel) rfl 6 (by decide +kernel) (hts _ (tw_c tw_758)) rfl dX4_settle_1 ?_
              have h_358 : rg (I_279 134 this) 0 40 := GX.rI hG 134 rfl
              have uh_358 := h_358.1
              have vh_358 := h_358.2
              replace hF := hF.trans (ap_n (vI_e (f := 134) hO_this (by decide +kernel)))
              refine lv_if_le (tgt := 76) hx hb dX4_settle_4 (by decide +kernel) (fun c_360 => ?_) (fun c_360 => ?_)
              · replace hF := hF.trans (if_pos c_360)
                have tc_365 : (I_279 134 this).toInt ≤ 0 := Int32.le_iff_toInt_le.mp c_360
                have h_366 : rg (I_279 134 this) 0 0 := rg_le1 c_360 h_358 (rg_k (0 : Int32) 0 rfl) (by decide +kernel)
                have uh_366 := h_366.1
                have vh_366 := h_366.2
                subst hQ
                exact W.vret hx hb hr (fun t1 ht hW => ⟨⟨(σ, I_279, J, ri_280, rj, rq), rfl, ⟨I_279, ri_280, rfl, hG, (by omega), hrel_357, (hF0.symm.trans hF), hFr⟩, by rw [ht]; exact hP, va_K.moved hW.alike hK, hD⟩, hS.F ht⟩) hS.2.2 dX4_settle_76
              · replace hF := hF.trans (if_neg c_360)
                have tc_367 : 0 < (I_279 134 this).toInt := Int32.lt_iff_toInt_lt.mp (nle c_360)
                have h_368 : rg (I_279 134 this) 1 40 := rg_lt2 (nle c_360) (rg_k (0 : Int32) 0 rfl) h_358 (by decide +kernel)
                have uh_368 := h_368.1
                have vh_368 := h_368.2
                refine lv_aload_n hx hb dX4_settle_7 rfl (lv_at hl 0 rfl) ?_
                refine pg_f (v := .ref w_12) (C := RX4) (T := TX4) (N := 12) hx hb hts (tw_i inlX4) hown hK hP hL_this hK_this (by decide +kernel) rfl 5 (by decide +kernel) (hts _ (tw_c tw_161)) (pq_hv rfl hR_w_12) dX4_settle_8 ?_
                refine lv_aload_n hx hb dX4_settle_11 rfl (lv_at hl 0 rfl) ?_
                refine pg_f (v := .int (I_279 134 this)) (C := RX4) (T := TX4) (N := 12) hx hb hts (tw_i inlX4) hown hK hP hL_this hK_this (by decide +kernel) rfl 6 (by decide +kernel) (hts _ (tw_c tw_758)) rfl dX4_settle_12 ?_
                refine lv_iconst (v := 1) hx hb dX4_settle_15 (by decide +kernel) ?_
                refine lv_isub hx hb dX4_settle_16 ?_
                refine lv_topi (fun x_369 ex_369 => ?_)
                replace hF := hF.trans (ap_n ex_369)
                have h_370 : rg x_369 0 39 := rg_of_eq ex_369 (rg_sub h_368 (rg_k (1 : Int32) 1 rfl) (by decide +kernel))
                have uh_370 := h_370.1
                have vh_370 := h_370.2
                have tx_369 : (x_369).toInt = (I_279 134 this).toInt - 1 := by rw [ex_369]; exact i_sub_rg (a2 := (I_279 134 this).toInt) (b2 := 1) rfl rfl h_368 (rg_k (1 : Int32) 1 rfl) (by decide +kernel)
                refine pl_i hx hb hK hP hL_w_12 hK_w_12 hN_w_12 (rg_in h_370 (by decide +kernel)) dX4_settle_17 ?_
                refine lv_topi (fun x_371 ex_371 => ?_)
                replace hF := hF.trans (ap_n (vR_r hO_w_12 (by decide +kernel) ex_371))
                refine pk_i (va_runS (As := [.int x_371]) (rest := []) ⟨hx, hb, hml, hown, hts⟩ (s_X4_rank l D t σ I_279 J ri_280 rj rq H.size tg hSH hG.1 x_371) (va_cwS 1 hts (tw_S tw_790 tw_791 tw_25 tw_792) rfl rfl rfl cd_yX4_rank_1 ⟨Nat.le_of_ble_eq_true rfl, Nat.le_of_ble_eq_true rfl⟩) ⟨pq_blind, pq_pre hK hN hP hD⟩ rfl rfl hl.1 rfl (lv_room (Nat.le_of_ble_eq_true rfl)) dX4_settle_18 ⟨Nat.le_of_ble_eq_true rfl, Nat.le_of_ble_eq_true rfl⟩) hD hS hA (fun x_372 σ1 μ1 H locs hw_373 hP hD hS => ?_)
                obtain ⟨hu_374, hfn_377, hr_376⟩ := hw_373
                obtain ⟨hu_374a, hu_374b⟩ := Prod.mk.inj hu_374
                rw [hu_374a, hu_374b] at hP hD
                replace hF := hF.trans (ap_n hfn_377.symm)
                refine lv_iload_n hx hb dX4_settle_21 rfl (lv_at hl 1 rfl) ?_
                refine lv_icmp_lt (tgt := 76) hx hb dX4_settle_22 (by decide +kernel) (fun c_379 => ?_) (fun c_379 => ?_)
                · replace hF := hF.trans (if_pos c_379)
                  have tc_384 : (x_372).toInt < (a0).toInt := Int32.lt_iff_toInt_lt.mp c_379
                  have h_385 : rg x_372 0 6 := rg_lt1 c_379 hr_376 h_31 (by decide +kernel)
                  have uh_385 := h_385.1
                  have vh_385 := h_385.2
                  have h_386 : rg a0 1 7 := rg_lt2 c_379 hr_376 h_31 (by decide +kernel)
                  have uh_386 := h_386.1
                  have vh_386 := h_386.2
                  subst hQ
                  exact W.vret hx hb hr (fun t1 ht hW => ⟨⟨(σ, I_279, J, ri_280, rj, rq), rfl, ⟨I_279, ri_280, rfl, hG, (by omega), hrel_357, (hF0.symm.trans hF), hFr⟩, by rw [ht]; exact hP, va_K.moved hW.alike hK, hD⟩, hS.F ht⟩) hS.2.2 dX4_settle_76
                · replace hF := hF.trans (if_neg c_379)
                  have tc_387 : (a0).toInt ≤ (x_372).toInt := Int32.le_iff_toInt_le.mp (nlt c_379)
                  refine lv_aload_n hx hb dX4_settle_25 rfl (lv_at hl 0 rfl) ?_
                  refine lv_dup hx hb dX4_settle_26 rfl ?_
                  refine pg_f (v := .int (I_279 134 this)) (C := RX4) (T := TX4) (N := 12) hx hb hts (tw_i inlX4) hown hK hP hL_this hK_this (by decide +kernel) rfl 6 (by decide +kernel) (hts _ (tw_c tw_758)) rfl dX4_settle_27 ?_
                  refine lv_iconst (v := 1) hx hb dX4_settle_30 (by decide +kernel) ?_
                  refine lv_isub hx hb dX4_settle_31 ?_
                  refine lv_topi (fun x_388 ex_388 => ?_)
                  replace hF := hF.trans (ap_n ex_388)
                  have h_389 : rg x_388 0 39 := rg_of_eq ex_388 (rg_sub h_368 (rg_k (1 : Int32) 1 rfl) (by decide +kernel))
                  have uh_389 := h_389.1
                  have vh_389 := h_389.2
                  have tx_388 : (x_388).toInt = (I_279 134 this).toInt - 1 := by rw [ex_388]; exact i_sub_rg (a2 := (I_279 134 this).toInt) (b2 := 1) rfl rfl h_368 (rg_k (1 : Int32) 1 rfl) (by decide +kernel)
                  refine pp_i (v := x_388) (ty := .int) (C := RX4) (T := TX4) (N := 12) hx hb hts (tw_i inlX4) tyX4 tyX4_ok nmX4 hown hK hP hD hS hL_this hK_this (by decide +kernel) rfl 6 134 (by decide +kernel) (hts _ (tw_c tw_758)) rfl (tyX4_ok 6 (by decide +kernel)) rfl rfl (Nat.le_of_ble_eq_true rfl) (ps_134 _ _ _ _ _) dX4_settle_32 (fun I_390 H locs eI_390 hP hD hS => ?_)
                  replace hFr := fr_I (f := 134) hFr hO_this (by decide +kernel) eI_390
                  replace hF := hF.trans (ap_n (vI_st (f := 134) hO_this (by decide +kernel) eI_390))
                  have hG := GX.wI hG 134 rfl eI_390 (rg_w h_389 (by decide +kernel)) (by decide +kernel)
                  have tt_391 : (I_390 132 this).toInt = (I_279 132 this).toInt := by rw [eI_390, pq_uf _ _ _ (by decide +kernel)]
                  have tt_392 : (I_390 134 this).toInt = (x_388).toInt := by rw [eI_390, pq_us]
                  have tt_393 : (I_390 129 this).toInt = (I_279 129 this).toInt := by rw [eI_390, pq_uf _ _ _ (by decide +kernel)]
                  refine lv_aload_n hx hb dX4_settle_35 rfl (lv_at hl 0 rfl) ?_
                  refine pg_f (v := .ref w_12) (C := RX4) (T := TX4) (N := 12) hx hb hts (tw_i inlX4) hown hK hP hL_this hK_this (by decide +kernel) rfl 5 (by decide +kernel) (hts _ (tw_c tw_161)) (pq_hv rfl hR_w_12) dX4_settle_36 ?_
                  refine lv_aload_n hx hb dX4_settle_39 rfl (lv_at hl 0 rfl) ?_
                  refine pg_f (v := .int (I_390 134 this)) (C := RX4) (T := TX4) (N := 12) hx hb hts (tw_i inlX4) hown hK hP hL_this hK_this (by decide +kernel) rfl 6 (by decide +kernel) (hts _ (tw_c tw_758)) rfl dX4_settle_40 ?_
                  have h_394 : rg (I_390 134 this) 0 39 := (by rw [eI_390, pq_us]; exact h_389)
                  have uh_394 := h_394.1
                  have vh_394 := h_394.2
                  replace hF := hF.trans (ap_n (vI_e (f := 134) hO_this (by decide +kernel)))
                  refine pl_i hx hb hK hP hL_w_12 hK_w_12 hN_w_12 (rg_in h_394 (by decide +kernel)) dX4_settle_43 ?_
                  refine lv_topi (fun x_396 ex_396 => ?_)
                  replace hF := hF.trans (ap_n (vR_r hO_w_12 (by decide +kernel) ex_396))
                  refine lv_istore_n (lv' := [(2, .int x_396), (0, .ref this), (1, .int a0)]) hx hb dX4_settle_44 rfl hl (by decide +kernel) rfl (fun ls hl => ?_)
                  refine lv_aload_n hx hb dX4_settle_45 rfl (lv_at hl 1 rfl) ?_
                  refine lv_iload_n hx hb dX4_settle_46 rfl (lv_at hl 0 rfl) ?_
                  refine lv_ineg hx hb dX4_settle_47 ?_
                  refine lv_topi (fun x_397 ex_397 => ?_)
                  replace hF := hF.trans (ap_n ex_397)
                  refine pk_v (va_runV (As := [.int x_397]) (rest := []) ⟨hx, hb, hml, hown, hts⟩ (s_X4_emit l D t σ I_390 J ri_280 rj rq H.size tg hSH hG.1 this x_397 hL_this hK_this) (cwV 1 hts (tw_V tw_769 tw_770 tw_771 tw_25 tw_772) rfl rfl rfl cv_yX4_emit_1 ⟨Nat.le_of_ble_eq_true rfl, Nat.le_of_ble_eq_true rfl⟩) ⟨pq_blind, pq_recv hK hP hL_this hK_this (by decide +kernel) rfl, pq_pre hK hN hP hD⟩ rfl rfl hl.1 rfl (lv_room (Nat.le_of_ble_eq_true rfl)) dX4_settle_48 ⟨Nat.le_of_ble_eq_true rfl, Nat.le_of_ble_eq_true rfl⟩) hD hS hA (fun σ1 μ1 H locs hw_399 hP hD hS => ?_)
                  obtain ⟨I_400, ri_401, hu_402, hg_403, hp_405, hp_406, hfn_407, hfr_408⟩ := hw_399
                  obtain ⟨hu_402a, hu_402b⟩ := Prod.mk.inj hu_402
                  rw [hu_402a, hu_402b] at hP hD
                  replace hF := hF.trans (bv_n hfn_407)
                  replace hFr := fr_tr hFr hfr_408
                  have tt_409 := hp_405
                  have tt_410 := hp_406
                  have hG := GX.tr hG hg_403 (by decide +kernel)
                  have tt_411 : (I_400 134 this).toInt = (I_390 134 this).toInt := by rw [hg_403.2.1 134 (by decide +kernel) (by decide +kernel)]
                  have tt_412 : (I_400 129 this).toInt = (I_390 129 this).toInt := by rw [hg_403.2.1 129 (by decide +kernel) (by decide +kernel)]
                  refine lv_iload_n hx hb dX4_settle_51 rfl (lv_at hl 0 rfl) ?_
                  refine lv_bipush (v := 11) hx hb dX4_settle_52 (by decide +kernel) ?_
                  refine lv_icmp_eq (tgt := 63) hx hb dX4_settle_54 (by decide +kernel) (fun c_413 => ?_) (fun c_413 => ?_)
                  · replace hF := hF.trans (if_pos c_413)
                    have tc_417 : (x_396).toInt = 11 := congrArg Int32.toInt c_413
                    have h_418 : rg x_396 11 11 := rg_and (rg_full _) (rg_of_eq c_413 (rg_k (11 : Int32) 11 rfl)) (by decide +kernel)
                    have uh_418 := h_418.1
                    have vh_418 := h_418.2
                    refine lv_aload_n hx hb dX4_settle_63 rfl (lv_at hl 1 rfl) ?_
                    refine lv_dup hx hb dX4_settle_64 rfl ?_
                    refine pg_f (v := .int (I_400 135 this)) (C := RX4) (T := TX4) (N := 12) hx hb hts (tw_i inlX4) hown hK hP hL_this hK_this (by decide +kernel) rfl 7 (by decide +kernel) (hts _ (tw_c tw_759)) rfl dX4_settle_65 ?_
                    replace hF := hF.trans (ap_n (vI_e (f := 135) hO_this (by decide +kernel)))
                    refine lv_iconst (v := 1) hx hb dX4_settle_68 (by decide +kernel) ?_
                    refine lv_isub hx hb dX4_settle_69 ?_
                    refine lv_topi (fun x_420 ex_420 => ?_)
                    replace hF := hF.trans (ap_n ex_420)
                    refine pp_i (v := x_420) (ty := .int) (C := RX4) (T := TX4) (N := 12) hx hb hts (tw_i inlX4) tyX4 tyX4_ok nmX4 hown hK hP hD hS hL_this hK_this (by decide +kernel) rfl 7 135 (by decide +kernel) (hts _ (tw_c tw_759)) rfl (tyX4_ok 7 (by decide +kernel)) rfl rfl (Nat.le_of_ble_eq_true rfl) (ps_135 _ _ _ _ _) dX4_settle_70 (fun I_421 H locs eI_421 hP hD hS => ?_)
                    replace hFr := fr_I (f := 135) hFr hO_this (by decide +kernel) eI_421
                    replace hF := hF.trans (ap_n (vI_st (f := 135) hO_this (by decide +kernel) eI_421))
                    have hG := GX.wI hG 135 rfl eI_421 (rg_w (rg_full _) (by decide +kernel)) (by decide +kernel)
                    have tt_422 : (I_421 132 this).toInt = (I_400 132 this).toInt := by rw [eI_421, pq_uf _ _ _ (by decide +kernel)]
                    have tt_423 : (I_421 134 this).toInt = (I_400 134 this).toInt := by rw [eI_421, pq_uf _ _ _ (by decide +kernel)]
                    have tt_424 : (I_421 129 this).toInt = (I_400 129 this).toInt := by rw [eI_421, pq_uf _ _ _ (by decide +kernel)]
                    refine lv_goto (tgt := 0) hx hb dX4_settle_73 (by decide +kernel) ?_
                    exact ih_353 I_421 ri_401 _ _ _ (by omega) (ft_t hrel_357 hp_406) (ms_fd_isub hm_350 ((congrFun (show I_421 134 = I_400 134 from by rw [eI_421]; exact pq_uf _ _ _ (by decide +kernel)) this).trans ((congrFun (hg_403.2.1 134 (by decide +kernel) (by decide +kernel)) this).trans (by rw [eI_390]; exact pq_us _ _ _ _))) ex_388 rfl (kk := 1) rfl (by decide +kernel) h_368 (by decide +kernel) (by decide +kernel)) hF hFr hG hP hD hS (lv_sub hl [1, 2] rfl)
                  · replace hF := hF.trans (if_neg c_413)
                    have tc_425 : (x_396).toInt ≠ 11 := fun q => c_413 (Int32.toInt_inj.mp q)
                    refine lv_iload_n hx hb dX4_settle_57 rfl (lv_at hl 0 rfl) ?_
                    refine lv_bipush (v := 35) hx hb dX4_settle_58 (by decide +kernel) ?_
                    refine lv_icmp_ne (tgt := 73) hx hb dX4_settle_60 (by decide +kernel) (fun c_426 => ?_) (fun c_426 => ?_)
                    · replace hF := hF.trans (if_neg c_426)
                      have tc_430 : (x_396).toInt ≠ 35 := fun q => c_426 (Int32.toInt_inj.mp q)
                      refine lv_goto (tgt := 0) hx hb dX4_settle_73 (by decide +kernel) ?_
                      exact ih_353 I_400 ri_401 _ _ _ (by omega) (ft_t hrel_357 hp_406) (ms_fd_isub hm_350 ((congrFun (hg_403.2.1 134 (by decide +kernel) (by decide +kernel)) this).trans (by rw [eI_390]; exact pq_us _ _ _ _)) ex_388 rfl (kk := 1) rfl (by decide +kernel) h_368 (by decide +kernel) (by decide +kernel)) hF hFr hG hP hD hS (lv_sub hl [1, 2] rfl)
                    · replace hF := hF.trans (if_pos c_426)
                      have tc_431 : (x_396).toInt = 35 := congrArg Int32.toInt c_426
                      have h_432 : rg x_396 35 35 := rg_and (rg_full _) (rg_of_eq c_426 (rg_k (35 : Int32) 35 rfl)) (by decide +kernel)
                      have uh_432 := h_432.1
                      have vh_432 := h_432.2
                      refine lv_aload_n hx hb dX4_settle_63 rfl (lv_at hl 1 rfl) ?_
                      refine lv_dup hx hb dX4_settle_64 rfl ?_
                      refine pg_f (v := .int (I_400 135 this)) (C := RX4) (T := TX4) (N := 12) hx hb hts (tw_i inlX4) hown hK hP hL_this hK_this (by decide +kernel) rfl 7 (by decide +kernel) (hts _ (tw_c tw_759)) rfl dX4_settle_65 ?_
                      replace hF := hF.trans (ap_n (vI_e (f := 135) hO_this (by decide +kernel)))
                      refine lv_iconst (v := 1) hx hb dX4_settle_68 (by decide +kernel) ?_
                      refine lv_isub hx hb dX4_settle_69 ?_
                      refine lv_topi (fun x_434 ex_434 => ?_)
                      replace hF := hF.trans (ap_n ex_434)
                      refine pp_i (v := x_434) (ty := .int) (C := RX4) (T := TX4) (N := 12) hx hb hts (tw_i inlX4) tyX4 tyX4_ok nmX4 hown hK hP hD hS hL_this hK_this (by decide +kernel) rfl 7 135 (by decide +kernel) (hts _ (tw_c tw_759)) rfl (tyX4_ok 7 (by decide +kernel)) rfl rfl (Nat.le_of_ble_eq_true rfl) (ps_135 _ _ _ _ _) dX4_settle_70 (fun I_435 H locs eI_435 hP hD hS => ?_)
                      replace hFr := fr_I (f := 135) hFr hO_this (by decide +kernel) eI_435
                      replace hF := hF.trans (ap_n (vI_st (f := 135) hO_this (by decide +kernel) eI_435))
                      have hG := GX.wI hG 135 rfl eI_435 (rg_w (rg_full _) (by decide +kernel)) (by decide +kernel)
                      have tt_436 : (I_435 132 this).toInt = (I_400 132 this).toInt := by rw [eI_435, pq_uf _ _ _ (by decide +kernel)]
                      have tt_437 : (I_435 134 this).toInt = (I_400 134 this).toInt := by rw [eI_435, pq_uf _ _ _ (by decide +kernel)]
                      have tt_438 : (I_435 129 this).toInt = (I_400 129 this).toInt := by rw [eI_435, pq_uf _ _ _ (by decide +kernel)]
                      refine lv_goto (tgt := 0) hx hb dX4_settle_73 (by decide +kernel) ?_
                      exact ih_353 I_435 ri_401 _ _ _ (by omega) (ft_t hrel_357 hp_406) (ms_fd_isub hm_350 ((congrFun (show I_435 134 = I_400 134 from by rw [eI_435]; exact pq_uf _ _ _ (by decide +kernel)) this).trans ((congrFun (hg_403.2.1 134 (by decide +kernel) (by decide +kernel)) this).trans (by rw [eI_390]; exact pq_us _ _ _ _))) ex_388 rfl (kk := 1) rfl (by decide +kernel) h_368 (by decide +kernel) (by decide +kernel)) hF hFr hG hP hD hS (lv_sub hl [1, 2] rfl)
          replace hF := hF.trans (ap_n (vI_e (f := 134) hO_this (by decide +kernel)))
          exact L_352 _ I_65 ri_45 _ _ _ (by omega) (ft_t (fun _ _ => rfl) hp_50) (Nat.lt_succ_self _) hF hFr hG hP hD hS (lv_sub hl [1, 2] rfl)
        · replace hF := hF.trans (if_neg c_57)
          have tc_440 : (x_40).toInt ≠ 11 := fun q => c_57 (Int32.toInt_inj.mp q)
          refine lv_iload_n hx hb dX4_settle_57 rfl (lv_at hl 0 rfl) ?_
          refine lv_bipush (v := 35) hx hb dX4_settle_58 (by decide +kernel) ?_
          refine lv_icmp_ne (tgt := 73) hx hb dX4_settle_60 (by decide +kernel) (fun c_441 => ?_) (fun c_441 => ?_)
          · replace hF := hF.trans (if_neg c_441)
            have tc_445 : (x_40).toInt ≠ 35 := fun q => c_441 (Int32.toInt_inj.mp q)
            refine lv_goto (tgt := 0) hx hb dX4_settle_73 (by decide +kernel) ?_
            have L_729 : ∀ (n_728 : Nat) (I_656 : Nat → Nat → Int32) (ri_657 : Nat → Nat → Int32) (H : Heap) (locs : List Loc) (ls : Array Slot), ((I_656 132 this).toInt + (I_656 134 this).toInt ≤ (I 132 this).toInt + (I 134 this).toInt) → (∀ q, tg q = 258 → ri_657 q = ri q) → ((I_656 134 this).toInt - 0).toNat < n_728 → F = g_X4_settle_L0_2 a0 (vJ 4 σ this J) (vL 4 σ this rj) (vQ 4 σ this rq) n_728 (vI 4 σ this I_656) (vR 4 σ this ri_657) → FR 4 tg σ this (I, J, ri, rj, rq) (I_656, J, ri_657, rj, rq) → GX [132, 134] tg σ I ri rj I_656 ri_657 rj rq → va_P D vwCl (pq_P t σ (I_656, J, ri_657, rj, rq)) H → va_D A (pq_P t σ (I_656, J, ri_657, rj, rq)) → va_S A s.heap H locs → lv_has ls 3 [(0, .ref this), (1, .int a0)] → W p l e ({ frames := 1, cells := 0, slots := 0, locals := 21 } : Room) s m (List.toArray ([.ref this, .int a0] : List Value)) below meth c H locs 0 0 Q (F0 m 0 ls []) := by
              intro n_728
              induction n_728 with
              | zero => intro I_656 ri_657 H locs ls hrel_733 hrel_734 hm_727 hF hFr hG hP hD hS hl; exact absurd hm_727 (Nat.not_lt_zero _)
              | succ n_728 ih_730 =>
                intro I_656 ri_657 H locs ls hrel_733 hrel_734 hm_727 hF hFr hG hP hD hS hl
                replace hF := hF.trans g_X4_settle_L0_2_e
                refine lv_aload_n hx hb dX4_settle_0 rfl (lv_at hl 0 rfl) ?_
                refine pg_f (v := .int (I_656 134 this)) (C := RX4) (T := TX4) (N := 12) hx hb hts (tw_i inlX4) hown hK hP hL_this hK_this (by decide +kernel) rfl 6 (by decide +kernel) (hts _ (tw_c tw_758)) rfl dX4_settle_1 ?_
                have h_735 : rg (I_656 134 this) 0 40 := GX.rI hG 134 rfl
                have uh_735 := h_735.1
                have vh_735 := h_735.2
                replace hF := hF.trans (ap_n (vI_e (f := 134) hO_this (by decide +kernel)))
                refine lv_if_le (tgt := 76) hx hb dX4_settle_4 (by decide +kernel) (fun c_737 => ?_) (fun c_737 => ?_)
                · replace hF := hF.trans (if_pos c_737)
                  have tc_742 : (I_656 134 this).toInt ≤ 0 := Int32.le_iff_toInt_le.mp c_737
                  have h_743 : rg (I_656 134 this) 0 0 := rg_le1 c_737 h_735 (rg_k (0 : Int32) 0 rfl) (by decide +kernel)
                  have uh_743 := h_743.1
                  have vh_743 := h_743.2
                  subst hQ
                  exact W.vret hx hb hr (fun t1 ht hW => ⟨⟨(σ, I_656, J, ri_657, rj, rq), rfl, ⟨I_656, ri_657, rfl, hG, (by omega), hrel_734, (hF0.symm.trans hF), hFr⟩, by rw [ht]; exact hP, va_K.moved hW.alike hK, hD⟩, hS.F ht⟩) hS.2.2 dX4_settle_76
                · replace hF := hF.trans (if_neg c_737)
                  have tc_744 : 0 < (I_656 134 this).toInt := Int32.lt_iff_toInt_lt.mp (nle c_737)
                  have h_745 : rg (I_656 134 this) 1 40 := rg_lt2 (nle c_737) (rg_k (0 : Int32) 0 rfl) h_735 (by decide +kernel)
                  have uh_745 := h_745.1
                  have vh_745 := h_745.2
                  refine lv_aload_n hx hb dX4_settle_7 rfl (lv_at hl 0 rfl) ?_
                  refine pg_f (v := .ref w_12) (C := RX4) (T := TX4) (N := 12) hx hb hts (tw_i inlX4) hown hK hP hL_this hK_this (by decide +kernel) rfl 5 (by decide +kernel) (hts _ (tw_c tw_161)) (pq_hv rfl hR_w_12) dX4_settle_8 ?_
                  refine lv_aload_n hx hb dX4_settle_11 rfl (lv_at hl 0 rfl) ?_
                  refine pg_f (v := .int (I_656 134 this)) (C := RX4) (T := TX4) (N := 12) hx hb hts (tw_i inlX4) hown hK hP hL_this hK_this (by decide +kernel) rfl 6 (by decide +kernel) (hts _ (tw_c tw_758)) rfl dX4_settle_12 ?_
                  refine lv_iconst (v := 1) hx hb dX4_settle_15 (by decide +kernel) ?_
                  refine lv_isub hx hb dX4_settle_16 ?_
                  refine lv_topi (fun x_746 ex_746 => ?_)
                  replace hF := hF.trans (ap_n ex_746)
                  have h_747 : rg x_746 0 39 := rg_of_eq ex_746 (rg_sub h_745 (rg_k (1 : Int32) 1 rfl) (by decide +kernel))
                  have uh_747 := h_747.1
                  have vh_747 := h_747.2
                  have tx_746 : (x_746).toInt = (I_656 134 this).toInt - 1 := by rw [ex_746]; exact i_sub_rg (a2 := (I_656 134 this).toInt) (b2 := 1) rfl rfl h_745 (rg_k (1 : Int32) 1 rfl) (by decide +kernel)
                  refine pl_i hx hb hK hP hL_w_12 hK_w_12 hN_w_12 (rg_in h_747 (by decide +kernel)) dX4_settle_17 ?_
                  refine lv_topi (fun x_748 ex_748 => ?_)
                  replace hF := hF.trans (ap_n (vR_r hO_w_12 (by decide +kernel) ex_748))
                  refine pk_i (va_runS (As := [.int x_748]) (rest := []) ⟨hx, hb, hml, hown, hts⟩ (s_X4_rank l D t σ I_656 J ri_657 rj rq H.size tg hSH hG.1 x_748) (va_cwS 1 hts (tw_S tw_790 tw_791 tw_25 tw_792) rfl rfl rfl cd_yX4_rank_1 ⟨Nat.le_of_ble_eq_true rfl, Nat.le_of_ble_eq_true rfl⟩) ⟨pq_blind, pq_pre hK hN hP hD⟩ rfl rfl hl.1 rfl (lv_room (Nat.le_of_ble_eq_true rfl)) dX4_settle_18 ⟨Nat.le_of_ble_eq_true rfl, Nat.le_of_ble_eq_true rfl⟩) hD hS hA (fun x_749 σ1 μ1 H locs hw_750 hP hD hS => ?_)
                  obtain ⟨hu_751, hfn_754, hr_753⟩ := hw_750
                  obtain ⟨hu_751a, hu_751b⟩ := Prod.mk.inj hu_751
                  rw [hu_751a, hu_751b] at hP hD
                  replace hF := hF.trans (ap_n hfn_754.symm)
                  refine lv_iload_n hx hb dX4_settle_21 rfl (lv_at hl 1 rfl) ?_
                  refine lv_icmp_lt (tgt := 76) hx hb dX4_settle_22 (by decide +kernel) (fun c_756 => ?_) (fun c_756 => ?_)
                  · replace hF := hF.trans (if_pos c_756)
                    have tc_761 : (x_749).toInt < (a0).toInt := Int32.lt_iff_toInt_lt.mp c_756
                    have h_762 : rg x_749 0 6 := rg_lt1 c_756 hr_753 h_31 (by decide +kernel)
                    have uh_762 := h_762.1
                    have vh_762 := h_762.2
                    have h_763 : rg a0 1 7 := rg_lt2 c_756 hr_753 h_31 (by decide +kernel)
                    have uh_763 := h_763.1
                    have vh_763 := h_763.2
                    subst hQ
                    exact W.vret hx hb hr (fun t1 ht hW => ⟨⟨(σ, I_656, J, ri_657, rj, rq), rfl, ⟨I_656, ri_657, rfl, hG, (by omega), hrel_734, (hF0.symm.trans hF), hFr⟩, by rw [ht]; exact hP, va_K.moved hW.alike hK, hD⟩, hS.F ht⟩) hS.2.2 dX4_settle_76
                  · replace hF := hF.trans (if_neg c_756)
                    have tc_764 : (a0).toInt ≤ (x_749).toInt := Int32.le_iff_toInt_le.mp (nlt c_756)
                    refine lv_aload_n hx hb dX4_settle_25 rfl (lv_at hl 0 rfl) ?_
                    refine lv_dup hx hb dX4_settle_26 rfl ?_
                    refine pg_f (v := .int (I_656 134 this)) (C := RX4) (T := TX4) (N := 12) hx hb hts (tw_i inlX4) hown hK hP hL_this hK_this (by decide +kernel) rfl 6 (by decide +kernel) (hts _ (tw_c tw_758)) rfl dX4_settle_27 ?_
                    refine lv_iconst (v := 1) hx hb dX4_settle_30 (by decide +kernel) ?_
                    refine lv_isub hx hb dX4_settle_31 ?_
                    refine lv_topi (fun x_765 ex_765 => ?_)
                    replace hF := hF.trans (ap_n ex_765)
                    have h_766 : rg x_765 0 39 := rg_of_eq ex_765 (rg_sub h_745 (rg_k (1 : Int32) 1 rfl) (by decide +kernel))
                    have uh_766 := h_766.1
                    have vh_766 := h_766.2
                    have tx_765 : (x_765).toInt = (I_656 134 this).toInt - 1 := by rw [ex_765]; exact i_sub_rg (a2 := (I_656 134 this).toInt) (b2 := 1) rfl rfl h_745 (rg_k (1 : Int32) 1 rfl) (by decide +kernel)
                    refine pp_i (v := x_765) (ty := .int) (C := RX4) (T := TX4) (N := 12) hx hb hts (tw_i inlX4) tyX4 tyX4_ok nmX4 hown hK hP hD hS hL_this hK_this (by decide +kernel) rfl 6 134 (by decide +kernel) (hts _ (tw_c tw_758)) rfl (tyX4_ok 6 (by decide +kernel)) rfl rfl (Nat.le_of_ble_eq_true rfl) (ps_134 _ _ _ _ _) dX4_settle_32 (fun I_767 H locs eI_767 hP hD hS => ?_)
                    replace hFr := fr_I (f := 134) hFr hO_this (by decide +kernel) eI_767
                    replace hF := hF.trans (ap_n (vI_st (f := 134) hO_this (by decide +kernel) eI_767))
                    have hG := GX.wI hG 134 rfl eI_767 (rg_w h_766 (by decide +kernel)) (by decide +kernel)
                    have tt_768 : (I_767 132 this).toInt = (I_656 132 this).toInt := by rw [eI_767, pq_uf _ _ _ (by decide +kernel)]
                    have tt_769 : (I_767 134 this).toInt = (x_765).toInt := by rw [eI_767, pq_us]
                    have tt_770 : (I_767 129 this).toInt = (I_656 129 this).toInt := by rw [eI_767, pq_uf _ _ _ (by decide +kernel)]
                    refine lv_aload_n hx hb dX4_settle_35 rfl (lv_at hl 0 rfl) ?_
                    refine pg_f (v := .ref w_12) (C := RX4) (T := TX4) (N := 12) hx hb hts (tw_i inlX4) hown hK hP hL_this hK_this (by decide +kernel) rfl 5 (by decide +kernel) (hts _ (tw_c tw_161)) (pq_hv rfl hR_w_12) dX4_settle_36 ?_
                    refine lv_aload_n hx hb dX4_settle_39 rfl (lv_at hl 0 rfl) ?_
                    refine pg_f (v := .int (I_767 134 this)) (C := RX4) (T := TX4) (N := 12) hx hb hts (tw_i inlX4) hown hK hP hL_this hK_this (by decide +kernel) rfl 6 (by decide +kernel) (hts _ (tw_c tw_758)) rfl dX4_settle_40 ?_
                    have h_771 : rg (I_767 134 this) 0 39 := (by rw [eI_767, pq_us]; exact h_766)
                    have uh_771 := h_771.1
                    have vh_771 := h_771.2
                    replace hF := hF.trans (ap_n (vI_e (f := 134) hO_this (by decide +kernel)))
                    refine pl_i hx hb hK hP hL_w_12 hK_w_12 hN_w_12 (rg_in h_771 (by decide +kernel)) dX4_settle_43 ?_
                    refine lv_topi (fun x_773 ex_773 => ?_)
                    replace hF := hF.trans (ap_n (vR_r hO_w_12 (by decide +kernel) ex_773))
                    refine lv_istore_n (lv' := [(2, .int x_773), (0, .ref this), (1, .int a0)]) hx hb dX4_settle_44 rfl hl (by decide +kernel) rfl (fun ls hl => ?_)
                    refine lv_aload_n hx hb dX4_settle_45 rfl (lv_at hl 1 rfl) ?_
                    refine lv_iload_n hx hb dX4_settle_46 rfl (lv_at hl 0 rfl) ?_
                    refine lv_ineg hx hb dX4_settle_47 ?_
                    refine lv_topi (fun x_774 ex_774 => ?_)
                    replace hF := hF.trans (ap_n ex_774)
                    refine pk_v (va_runV (As := [.int x_774]) (rest := []) ⟨hx, hb, hml, hown, hts⟩ (s_X4_emit l D t σ I_767 J ri_657 rj rq H.size tg hSH hG.1 this x_774 hL_this hK_this) (cwV 1 hts (tw_V tw_769 tw_770 tw_771 tw_25 tw_772) rfl rfl rfl cv_yX4_emit_1 ⟨Nat.le_of_ble_eq_true rfl, Nat.le_of_ble_eq_true rfl⟩) ⟨pq_blind, pq_recv hK hP hL_this hK_this (by decide +kernel) rfl, pq_pre hK hN hP hD⟩ rfl rfl hl.1 rfl (lv_room (Nat.le_of_ble_eq_true rfl)) dX4_settle_48 ⟨Nat.le_of_ble_eq_true rfl, Nat.le_of_ble_eq_true rfl⟩) hD hS hA (fun σ1 μ1 H locs hw_776 hP hD hS => ?_)
                    obtain ⟨I_777, ri_778, hu_779, hg_780, hp_782, hp_783, hfn_784, hfr_785⟩ := hw_776
                    obtain ⟨hu_779a, hu_779b⟩ := Prod.mk.inj hu_779
                    rw [hu_779a, hu_779b] at hP hD
                    replace hF := hF.trans (bv_n hfn_784)
                    replace hFr := fr_tr hFr hfr_785
                    have tt_786 := hp_782
                    have tt_787 := hp_783
                    have hG := GX.tr hG hg_780 (by decide +kernel)
                    have tt_788 : (I_777 134 this).toInt = (I_767 134 this).toInt := by rw [hg_780.2.1 134 (by decide +kernel) (by decide +kernel)]
                    have tt_789 : (I_777 129 this).toInt = (I_767 129 this).toInt := by rw [hg_780.2.1 129 (by decide +kernel) (by decide +kernel)]
                    refine lv_iload_n hx hb dX4_settle_51 rfl (lv_at hl 0 rfl) ?_
                    refine lv_bipush (v := 11) hx hb dX4_settle_52 (by decide +kernel) ?_
                    refine lv_icmp_eq (tgt := 63) hx hb dX4_settle_54 (by decide +kernel) (fun c_790 => ?_) (fun c_790 => ?_)
                    · replace hF := hF.trans (if_pos c_790)
                      have tc_794 : (x_773).toInt = 11 := congrArg Int32.toInt c_790
                      have h_795 : rg x_773 11 11 := rg_and (rg_full _) (rg_of_eq c_790 (rg_k (11 : Int32) 11 rfl)) (by decide +kernel)
                      have uh_795 := h_795.1
                      have vh_795 := h_795.2
                      refine lv_aload_n hx hb dX4_settle_63 rfl (lv_at hl 1 rfl) ?_
                      refine lv_dup hx hb dX4_settle_64 rfl ?_
                      refine pg_f (v := .int (I_777 135 this)) (C := RX4) (T := TX4) (N := 12) hx hb hts (tw_i inlX4) hown hK hP hL_this hK_this (by decide +kernel) rfl 7 (by decide +kernel) (hts _ (tw_c tw_759)) rfl dX4_settle_65 ?_
                      replace hF := hF.trans (ap_n (vI_e (f := 135) hO_this (by decide +kernel)))
                      refine lv_iconst (v := 1) hx hb dX4_settle_68 (by decide +kernel) ?_
                      refine lv_isub hx hb dX4_settle_69 ?_
                      refine lv_topi (fun x_797 ex_797 => ?_)
                      replace hF := hF.trans (ap_n ex_797)
                      refine pp_i (v := x_797) (ty := .int) (C := RX4) (T := TX4) (N := 12) hx hb hts (tw_i inlX4) tyX4 tyX4_ok nmX4 hown hK hP hD hS hL_this hK_this (by decide +kernel) rfl 7 135 (by decide +kernel) (hts _ (tw_c tw_759)) rfl (tyX4_ok 7 (by decide +kernel)) rfl rfl (Nat.le_of_ble_eq_true rfl) (ps_135 _ _ _ _ _) dX4_settle_70 (fun I_798 H locs eI_798 hP hD hS => ?_)
                      replace hFr := fr_I (f := 135) hFr hO_this (by decide +kernel) eI_798
                      replace hF := hF.trans (ap_n (vI_st (f := 135) hO_this (by decide +kernel) eI_798))
                      have hG := GX.wI hG 135 rfl eI_798 (rg_w (rg_full _) (by decide +kernel)) (by decide +kernel)
                      have tt_799 : (I_798 132 this).toInt = (I_777 132 this).toInt := by rw [eI_798, pq_uf _ _ _ (by decide +kernel)]
                      have tt_800 : (I_798 134 this).toInt = (I_777 134 this).toInt := by rw [eI_798, pq_uf _ _ _ (by decide +kernel)]
                      have tt_801 : (I_798 129 this).toInt = (I_777 129 this).toInt := by rw [eI_798, pq_uf _ _ _ (by decide +kernel)]
                      refine lv_goto (tgt := 0) hx hb dX4_settle_73 (by decide +kernel) ?_
                      exact ih_730 I_798 ri_778 _ _ _ (by omega) (ft_t hrel_734 hp_783) (ms_fd_isub hm_727 ((congrFun (show I_798 134 = I_777 134 from by rw [eI_798]; exact pq_uf _ _ _ (by decide +kernel)) this).trans ((congrFun (hg_780.2.1 134 (by decide +kernel) (by decide +kernel)) this).trans (by rw [eI_767]; exact pq_us _ _ _ _))) ex_765 rfl (kk := 1) rfl (by decide +kernel) h_745 (by decide +kernel) (by decide +kernel)) hF hFr hG hP hD hS (lv_sub hl [1, 2] rfl)
                    · replace hF := hF.trans (if_neg c_790)
                      have tc_802 : (x_773).toInt ≠ 11 := fun q => c_790 (Int32.toInt_inj.mp q)
                      refine lv_iload_n hx hb dX4_settle_57 rfl (lv_at hl 0 rfl) ?_
                      refine lv_bipush (v := 35) hx hb dX4_settle_58 (by decide +kernel) ?_
                      refine lv_icmp_ne (tgt := 73) hx hb dX4_settle_60 (by decide +kernel) (fun c_803 => ?_) (fun c_803 => ?_)
                      · replace hF := hF.trans (if_neg c_803)
                        have tc_807 : (x_773).toInt ≠ 35 := fun q => c_803 (Int32.toInt_inj.mp q)
                        refine lv_goto (tgt := 0) hx hb dX4_settle_73 (by decide +kernel) ?_
                        exact ih_730 I_777 ri_778 _ _ _ (by omega) (ft_t hrel_734 hp_783) (ms_fd_isub hm_727 ((congrFun (hg_780.2.1 134 (by decide +kernel) (by decide +kernel)) this).trans (by rw [eI_767]; exact pq_us _ _ _ _)) ex_765 rfl (kk := 1) rfl (by decide +kernel) h_745 (by decide +kernel) (by decide +kernel)) hF hFr hG hP hD hS (lv_sub hl [1, 2] rfl)
                      · replace hF := hF.trans (if_pos c_803)
                        have tc_808 : (x_773).toInt = 35 := congrArg Int32.toInt c_803
                        have h_809 : rg x_773 35 35 := rg_and (rg_full _) (rg_of_eq c_803 (rg_k (35 : Int32) 35 rfl)) (by decide +kernel)
                        have uh_809 := h_809.1
                        have vh_809 := h_809.2
                        refine lv_aload_n hx hb dX4_settle_63 rfl (lv_at hl 1 rfl) ?_
                        refine lv_dup hx hb dX4_settle_64 rfl ?_
                        refine pg_f (v := .int (I_777 135 this)) (C := RX4) (T := TX4) (N := 12) hx hb hts (tw_i inlX4) hown hK hP hL_this hK_this (by decide +kernel) rfl 7 (by decide +kernel) (hts _ (tw_c tw_759)) rfl dX4_settle_65 ?_
                        replace hF := hF.trans (ap_n (vI_e (f := 135) hO_this (by decide +kernel)))
                        refine lv_iconst (v := 1) hx hb dX4_settle_68 (by decide +kernel) ?_
                        refine lv_isub hx hb dX4_settle_69 ?_
                        refine lv_topi (fun x_811 ex_811 => ?_)
                        replace hF := hF.trans (ap_n ex_811)
                        refine pp_i (v := x_811) (ty := .int) (C := RX4) (T := TX4) (N := 12) hx hb hts (tw_i inlX4) tyX4 tyX4_ok nmX4 hown hK hP hD hS hL_this hK_this (by decide +kernel) rfl 7 135 (by decide +kernel) (hts _ (tw_c tw_759)) rfl (tyX4_ok 7 (by decide +kernel)) rfl rfl (Nat.le_of_ble_eq_true rfl) (ps_135 _ _ _ _ _) dX4_settle_70 (fun I_812 H locs eI_812 hP hD hS => ?_)
                        replace hFr := fr_I (f := 135) hFr hO_this (by decide +kernel) eI_812
                        replace hF := hF.trans (ap_n (vI_st (f := 135) hO_this (by decide +kernel) eI_812))
                        have hG := GX.wI hG 135 rfl eI_812 (rg_w (rg_full _) (by decide +kernel)) (by decide +kernel)
                        have tt_813 : (I_812 132 this).toInt = (I_777 132 this).toInt := by rw [eI_812, pq_uf _ _ _ (by decide +kernel)]
                        have tt_814 : (I_812 134 this).toInt = (I_777 134 this).toInt := by rw [eI_812, pq_uf _ _ _ (by decide +kernel)]
                        have tt_815 : (I_812 129 this).toInt = (I_777 129 this).toInt := by rw [eI_812, pq_uf _ _ _ (by decide +kernel)]
                        refine lv_goto (tgt := 0) hx hb dX4_settle_73 (by decide +kernel) ?_
                        exact ih_730 I_812 ri_778 _ _ _ (by omega) (ft_t hrel_734 hp_783) (ms_fd_isub hm_727 ((congrFun (show I_812 134 = I_777 134 from by rw [eI_812]; exact pq_uf _ _ _ (by decide +kernel)) this).trans ((congrFun (hg_780.2.1 134 (by decide +kernel) (by decide +kernel)) this).trans (by rw [eI_767]; exact pq_us _ _ _ _))) ex_765 rfl (kk := 1) rfl (by decide +kernel) h_745 (by decide +kernel) (by decide +kernel)) hF hFr hG hP hD hS (lv_sub hl [1, 2] rfl)
            replace hF := hF.trans (ap_n (vI_e (f := 134) hO_this (by decide +kernel)))
            exact L_729 _ I_44 ri_45 _ _ _ (by omega) (ft_t (fun _ _ => rfl) hp_50) (Nat.lt_succ_self _) hF hFr hG hP hD hS (lv_sub hl [1, 2] rfl)
          · replace hF := hF.trans (if_pos c_441)
            have tc_817 : (x_40).toInt = 35 := congrArg Int32.toInt c_441
            have h_818 : rg x_40 35 35 := rg_and (rg_full _) (rg_of_eq c_441 (rg_k (35 : Int32) 35 rfl)) (by decide +kernel)
            have uh_818 := h_818.1
            have vh_818 := h_818.2
            refine lv_aload_n hx hb dX4_settle_63 rfl (lv_at hl 1 rfl) ?_
            refine lv_dup hx hb dX4_settle_64 rfl ?_
            refine pg_f (v := .int (I_44 135 this)) (C := RX4) (T := TX4) (N := 12) hx hb hts (tw_i inlX4) hown hK hP hL_this hK_this (by decide +kernel) rfl 7 (by decide +kernel) (hts _ (tw_c tw_759)) rfl dX4_settle_65 ?_
            replace hF := hF.trans (ap_n (vI_e (f := 135) hO_this (by decide +kernel)))
            refine lv_iconst (v := 1) hx hb dX4_settle_68 (by decide +kernel) ?_
            refine lv_isub hx hb dX4_settle_69 ?_
            refine lv_topi (fun x_820 ex_820 => ?_)
            replace hF := hF.trans (ap_n ex_820)
            refine pp_i (v := x_820) (ty := .int) (C := RX4) (T := TX4) (N := 12) hx hb hts (tw_i inlX4) tyX4 tyX4_ok nmX4 hown hK hP hD hS hL_this hK_this (by decide +kernel) rfl 7 135 (by decide +kernel) (hts _ (tw_c tw_759)) rfl (tyX4_ok 7 (by decide +kernel)) rfl rfl (Nat.le_of_ble_eq_true rfl) (ps_135 _ _ _ _ _) dX4_settle_70 (fun I_821 H locs eI_821 hP hD hS => ?_)
            replace hFr := fr_I (f := 135) hFr hO_this (by decide +kernel) eI_821
            replace hF := hF.trans (ap_n (vI_st (f := 135) hO_this (by decide +kernel) eI_821))
            have hG := GX.wI hG 135 rfl eI_821 (rg_w (rg_full _) (by decide +kernel)) (by decide +kernel)
            have tt_822 : (I_821 132 this).toInt = (I_44 132 this).toInt := by rw [eI_821, pq_uf _ _ _ (by decide +kernel)]
            have tt_823 : (I_821 134 this).toInt = (I_44 134 this).toInt := by rw [eI_821, pq_uf _ _ _ (by decide +kernel)]
            have tt_824 : (I_821 129 this).toInt = (I_44 129 this).toInt := by rw [eI_821, pq_uf _ _ _ (by decide +kernel)]
            refine lv_goto (tgt := 0) hx hb dX4_settle_73 (by decide +kernel) ?_
            have L_1108 : ∀ (n_1107 : Nat) (I_1035 : Nat → Nat → Int32) (ri_1036 : Nat → Nat → Int32) (H : Heap) (locs : List Loc) (ls : Array Slot), ((I_1035 132 this).toInt + (I_1035 134 this).toInt ≤ (I 132 this).toInt + (I 134 this).toInt) → (∀ q, tg q = 258 → ri_1036 q = ri q) → ((I_1035 134 this).toInt - 0).toNat < n_1107 → F = g_X4_settle_L0_3 a0 (vJ 4 σ this J) (vL 4 σ this rj) (vQ 4 σ this rq) n_1107 (vI 4 σ this I_1035) (vR 4 σ this ri_1036) → FR 4 tg σ this (I, J, ri, rj, rq) (I_1035, J, ri_1036, rj, rq) → GX [132, 134] tg σ I ri rj I_1035 ri_1036 rj rq → va_P D vwCl (pq_P t σ (I_1035, J, ri_1036, rj, rq)) H → va_D A (pq_P t σ (I_1035, J, ri_1036, rj, rq)) → va_S A s.heap H locs → lv_has ls 3 [(0, .ref this), (1, .int a0)] → W p l e ({ frames := 1, cells := 0, slots := 0, locals := 21 } : Room) s m (List.toArray ([.ref this, .int a0] : List Value)) below meth c H locs 0 0 Q (F0 m 0 ls []) := by
              intro n_1107
              induction n_1107 with
              | zero => intro I_1035 ri_1036 H locs ls hrel_1112 hrel_1113 hm_1106 hF hFr hG hP hD hS hl; exact absurd hm_1106 (Nat.not_lt_zero _)
              | succ n_1107 ih_1109 =>
                intro I_1035 ri_1036 H locs ls hrel_1112 hrel_1113 hm_1106 hF hFr hG hP hD hS hl
                replace hF := hF.trans g_X4_settle_L0_3_e
                refine lv_aload_n hx hb dX4_settle_0 rfl (lv_at hl 0 rfl) ?_
                refine pg_f (v := .int (I_1035 134 this)) (C := RX4) (T := TX4) (N := 12) hx hb hts (tw_i inlX4) hown hK hP hL_this hK_this (by decide +kernel) rfl 6 (by decide +kernel) (hts _ (tw_c tw_758)) rfl dX4_settle_1 ?_
                have h_1114 : rg (I_1035 134 this) 0 40 := GX.rI hG 134 rfl
                have uh_1114 := h_1114.1
                have vh_1114 := h_1114.2
                replace hF := hF.trans (ap_n (vI_e (f := 134) hO_this (by decide +kernel)))
                refine lv_if_le (tgt := 76) hx hb dX4_settle_4 (by decide +kernel) (fun c_1116 => ?_) (fun c_1116 => ?_)
                · replace hF := hF.trans (if_pos c_1116)
                  have tc_1121 : (I_1035 134 this).toInt ≤ 0 := Int32.le_iff_toInt_le.mp c_1116
                  have h_1122 : rg (I_1035 134 this) 0 0 := rg_le1 c_1116 h_1114 (rg_k (0 : Int32) 0 rfl) (by decide +kernel)
                  have uh_1122 := h_1122.1
                  have vh_1122 := h_1122.2
                  subst hQ
                  exact W.vret hx hb hr (fun t1 ht hW => ⟨⟨(σ, I_1035, J, ri_1036, rj, rq), rfl, ⟨I_1035, ri_1036, rfl, hG, (by omega), hrel_1113, (hF0.symm.trans hF), hFr⟩, by rw [ht]; exact hP, va_K.moved hW.alike hK, hD⟩, hS.F ht⟩) hS.2.2 dX4_settle_76
                · replace hF := hF.trans (if_neg c_1116)
                  have tc_1123 : 0 < (I_1035 134 this).toInt := Int32.lt_iff_toInt_lt.mp (nle c_1116)
                  have h_1124 : rg (I_1035 134 this) 1 40 := rg_lt2 (nle c_1116) (rg_k (0 : Int32) 0 rfl) h_1114 (by decide +kernel)
                  have uh_1124 := h_1124.1
                  have vh_1124 := h_1124.2
                  refine lv_aload_n hx hb dX4_settle_7 rfl (lv_at hl 0 rfl) ?_
                  refine pg_f (v := .ref w_12) (C := RX4) (T := TX4) (N := 12) hx hb hts (tw_i inlX4) hown hK hP hL_this hK_this (by decide +kernel) rfl 5 (by decide +kernel) (hts _ (tw_c tw_161)) (pq_hv rfl hR_w_12) dX4_settle_8 ?_
                  refine lv_aload_n hx hb dX4_settle_11 rfl (lv_at hl 0 rfl) ?_
                  refine pg_f (v := .int (I_1035 134 this)) (C := RX4) (T := TX4) (N := 12) hx hb hts (tw_i inlX4) hown hK hP hL_this hK_this (by decide +kernel) rfl 6 (by decide +kernel) (hts _ (tw_c tw_758)) rfl dX4_settle_12 ?_
                  refine lv_iconst (v := 1) hx hb dX4_settle_15 (by decide +kernel) ?_
                  refine lv_isub hx hb dX4_settle_16 ?_
                  refine lv_topi (fun x_1125 ex_1125 => ?_)
                  replace hF := hF.trans (ap_n ex_1125)
                  have h_1126 : rg x_1125 0 39 := rg_of_eq ex_1125 (rg_sub h_1124 (rg_k (1 : Int32) 1 rfl) (by decide +kernel))
                  have uh_1126 := h_1126.1
                  have vh_1126 := h_1126.2
                  have tx_1125 : (x_1125).toInt = (I_1035 134 this).toInt - 1 := by rw [ex_1125]; exact i_sub_rg (a2 := (I_1035 134 this).toInt) (b2 := 1) rfl rfl h_1124 (rg_k (1 : Int32) 1 rfl) (by decide +kernel)
                  refine pl_i hx hb hK hP hL_w_12 hK_w_12 hN_w_12 (rg_in h_1126 (by decide +kernel)) dX4_settle_17 ?_
                  refine lv_topi (fun x_1127 ex_1127 => ?_)
                  replace hF := hF.trans (ap_n (vR_r hO_w_12 (by decide +kernel) ex_1127))
                  refine pk_i (va_runS (As := [.int x_1127]) (rest := []) ⟨hx, hb, hml, hown, hts⟩ (s_X4_rank l D t σ I_1035 J ri_1036 rj rq H.size tg hSH hG.1 x_1127) (va_cwS 1 hts (tw_S tw_790 tw_791 tw_25 tw_792) rfl rfl rfl cd_yX4_rank_1 ⟨Nat.le_of_ble_eq_true rfl, Nat.le_of_ble_eq_true rfl⟩) ⟨pq_blind, pq_pre hK hN hP hD⟩ rfl rfl hl.1 rfl (lv_room (Nat.le_of_ble_eq_true rfl)) dX4_settle_18 ⟨Nat.le_of_ble_eq_true rfl, Nat.le_of_ble_eq_true rfl⟩) hD hS hA (fun x_1128 σ1 μ1 H locs hw_1129 hP hD hS => ?_)
                  obtain ⟨hu_1130, hfn_1133, hr_1132⟩ := hw_1129
                  obtain ⟨hu_1130a, hu_1130b⟩ := Prod.mk.inj hu_1130
                  rw [hu_1130a, hu_1130b] at hP hD
                  replace hF := hF.trans (ap_n hfn_1133.symm)
                  refine lv_iload_n hx hb dX4_settle_21 rfl (lv_at hl 1 rfl) ?_
                  refine lv_icmp_lt (tgt := 76) hx hb dX4_settle_22 (by decide +kernel) (fun c_1135 => ?_) (fun c_1135 => ?_)
                  · replace hF := hF.trans (if_pos c_1135)
                    have tc_1140 : (x_1128).toInt < (a0).toInt := Int32.lt_iff_toInt_lt.mp c_1135
                    have h_1141 : rg x_1128 0 6 := rg_lt1 c_1135 hr_1132 h_31 (by decide +kernel)
                    have uh_1141 := h_1141.1
                    have vh_1141 := h_1141.2
                    have h_1142 : rg a0 1 7 := rg_lt2 c_1135 hr_1132 h_31 (by decide +kernel)
                    have uh_1142 := h_1142.1
                    have vh_1142 := h_1142.2
                    subst hQ
                    exact W.vret hx hb hr (fun t1 ht hW => ⟨⟨(σ, I_1035, J, ri_1036, rj, rq), rfl, ⟨I_1035, ri_1036, rfl, hG, (by omega), hrel_1113, (hF0.symm.trans hF), hFr⟩, by rw [ht]; exact hP, va_K.moved hW.alike hK, hD⟩, hS.F ht⟩) hS.2.2 dX4_settle_76
                  · replace hF := hF.trans (if_neg c_1135)
                    have tc_1143 : (a0).toInt ≤ (x_1128).toInt := Int32.le_iff_toInt_le.mp (nlt c_1135)
                    refine lv_aload_n hx hb dX4_settle_25 rfl (lv_at hl 0 rfl) ?_
                    refine lv_dup hx hb dX4_settle_26 rfl ?_
                    refine pg_f (v := .int (I_1035 134 this)) (C := RX4) (T := TX4) (N := 12) hx hb hts (tw_i inlX4) hown hK hP hL_this hK_this (by decide +kernel) rfl 6 (by decide +kernel) (hts _ (tw_c tw_758)) rfl dX4_settle_27 ?_
                    refine lv_iconst (v := 1) hx hb dX4_settle_30 (by decide +kernel) ?_
                    refine lv_isub hx hb dX4_settle_31 ?_
                    refine lv_topi (fun x_1144 ex_1144 => ?_)
                    replace hF := hF.trans (ap_n ex_1144)
                    have h_1145 : rg x_1144 0 39 := rg_of_eq ex_1144 (rg_sub h_1124 (rg_k (1 : Int32) 1 rfl) (by decide +kernel))
                    have uh_1145 := h_1145.1
                    have vh_1145 := h_1145.2
                    have tx_1144 : (x_1144).toInt = (I_1035 134 this).toInt - 1 := by rw [ex_1144]; exact i_sub_rg (a2 := (I_1035 134 this).toInt) (b2 := 1) rfl rfl h_1124 (rg_k (1 : Int32) 1 rfl) (by decide +kernel)
                    refine pp_i (v := x_1144) (ty := .int) (C := RX4) (T := TX4) (N := 12) hx hb hts (tw_i inlX4) tyX4 tyX4_ok nmX4 hown hK hP hD hS hL_this hK_this (by decide +kernel) rfl 6 134 (by decide +kernel) (hts _ (tw_c tw_758)) rfl (tyX4_ok 6 (by decide +kernel)) rfl rfl (Nat.le_of_ble_eq_true rfl) (ps_134 _ _ _ _ _) dX4_settle_32 (fun I_1146 H locs eI_1146 hP hD hS => ?_)
                    replace hFr := fr_I (f := 134) hFr hO_this (by decide +kernel) eI_1146
                    replace hF := hF.trans (ap_n (vI_st (f := 134) hO_this (by decide +kernel) eI_1146))
                    have hG := GX.wI hG 134 rfl eI_1146 (rg_w h_1145 (by decide +kernel)) (by decide +kernel)
                    have tt_1147 : (I_1146 132 this).toInt = (I_1035 132 this).toInt := by rw [eI_1146, pq_uf _ _ _ (by decide +kernel)]
                    have tt_1148 : (I_1146 134 this).toInt = (x_1144).toInt := by rw [eI_1146, pq_us]
                    have tt_1149 : (I_1146 129 this).toInt = (I_1035 129 this).toInt := by rw [eI_1146, pq_uf _ _ _ (by decide +kernel)]
                    refine lv_aload_n hx hb dX4_settle_35 rfl (lv_at hl 0 rfl) ?_
                    refine pg_f (v := .ref w_12) (C := RX4) (T := TX4) (N := 12) hx hb hts (tw_i inlX4) hown hK hP hL_this hK_this (by decide +kernel) rfl 5 (by decide +kernel) (hts _ (tw_c tw_161)) (pq_hv rfl hR_w_12) dX4_settle_36 ?_
                    refine lv_aload_n hx hb dX4_settle_39 rfl (lv_at hl 0 rfl) ?_
                    refine pg_f (v := .int (I_1146 134 this)) (C := RX4) (T := TX4) (N := 12) hx hb hts (tw_i inlX4) hown hK hP hL_this hK_this (by decide +kernel) rfl 6 (by decide +kernel) (hts _ (tw_c tw_758)) rfl dX4_settle_40 ?_
                    have h_1150 : rg (I_1146 134 this) 0 39 := (by rw [eI_1146, pq_us]; exact h_1145)
                    have uh_1150 := h_1150.1
                    have vh_1150 := h_1150.2
                    replace hF := hF.trans (ap_n (vI_e (f := 134) hO_this (by decide +kernel)))
                    refine pl_i hx hb hK hP hL_w_12 hK_w_12 hN_w_12 (rg_in h_1150 (by decide +kernel)) dX4_settle_43 ?_
                    refine lv_topi (fun x_1152 ex_1152 => ?_)
                    replace hF := hF.trans (ap_n (vR_r hO_w_12 (by decide +kernel) ex_1152))
                    refine lv_istore_n (lv' := [(2, .int x_1152), (0, .ref this), (1, .int a0)]) hx hb dX4_settle_44 rfl hl (by decide +kernel) rfl (fun ls hl => ?_)
                    refine lv_aload_n hx hb dX4_settle_45 rfl (lv_at hl 1 rfl) ?_
                    refine lv_iload_n hx hb dX4_settle_46 rfl (lv_at hl 0 rfl) ?_
                    refine lv_ineg hx hb dX4_settle_47 ?_
                    refine lv_topi (fun x_1153 ex_1153 => ?_)
                    replace hF := hF.trans (ap_n ex_1153)
                    refine pk_v (va_runV (As := [.int x_1153]) (rest := []) ⟨hx, hb, hml, hown, hts⟩ (s_X4_emit l D t σ I_1146 J ri_1036 rj rq H.size tg hSH hG.1 this x_1153 hL_this hK_this) (cwV 1 hts (tw_V tw_769 tw_770 tw_771 tw_25 tw_772) rfl rfl rfl cv_yX4_emit_1 ⟨Nat.le_of_ble_eq_true rfl, Nat.le_of_ble_eq_true rfl⟩) ⟨pq_blind, pq_recv hK hP hL_this hK_this (by decide +kernel) rfl, pq_pre hK hN hP hD⟩ rfl rfl hl.1 rfl (lv_room (Nat.le_of_ble_eq_true rfl)) dX4_settle_48 ⟨Nat.le_of_ble_eq_true rfl, Nat.le_of_ble_eq_true rfl⟩) hD hS hA (fun σ1 μ1 H locs hw_1155 hP hD hS => ?_)
                    obtain ⟨I_1156, ri_1157, hu_1158, hg_1159, hp_1161, hp_1162, hfn_1163, hfr_1164⟩ := hw_1155
                    obtain ⟨hu_1158a, hu_1158b⟩ := Prod.mk.inj hu_1158
                    rw [hu_1158a, hu_1158b] at hP hD
                    replace hF := hF.trans (bv_n hfn_1163)
                    replace hFr := fr_tr hFr hfr_1164
                    have tt_1165 := hp_1161
                    have tt_1166 := hp_1162
                    have hG := GX.tr hG hg_1159 (by decide +kernel)
                    have tt_1167 : (I_1156 134 this).toInt = (I_1146 134 this).toInt := by rw [hg_1159.2.1 134 (by decide +kernel) (by decide +kernel)]
                    have tt_1168 : (I_1156 129 this).toInt = (I_1146 129 this).toInt := by rw [hg_1159.2.1 129 (by decide +kernel) (by decide +kernel)]
                    refine lv_iload_n hx hb dX4_settle_51 rfl (lv_at hl 0 rfl) ?_
                    refine lv_bipush (v := 11) hx hb dX4_settle_52 (by decide +kernel) ?_
                    refine lv_icmp_eq (tgt := 63) hx hb dX4_settle_54 (by decide +kernel) (fun c_1169 => ?_) (fun c_1169 => ?_)
                    · replace hF := hF.trans (if_pos c_1169)
                      have tc_1173 : (x_1152).toInt = 11 := congrArg Int32.toInt c_1169
                      have h_1174 : rg x_1152 11 11 := rg_and (rg_full _) (rg_of_eq c_1169 (rg_k (11 : Int32) 11 rfl)) (by decide +kernel)
                      have uh_1174 := h_1174.1
                      have vh_1174 := h_1174.2
                      refine lv_aload_n hx hb dX4_settle_63 rfl (lv_at hl 1 rfl) ?_
                      refine lv_dup hx hb dX4_settle_64 rfl ?_
                      refine pg_f (v := .int (I_1156 135 this)) (C := RX4) (T := TX4) (N := 12) hx hb hts (tw_i inlX4) hown hK hP hL_this hK_this (by decide +kernel) rfl 7 (by decide +kernel) (hts _ (tw_c tw_759)) rfl dX4_settle_65 ?_
                      replace hF := hF.trans (ap_n (vI_e (f := 135) hO_this (by decide +kernel)))
                      refine lv_iconst (v := 1) hx hb dX4_settle_68 (by decide +kernel) ?_
                      refine lv_isub hx hb dX4_settle_69 ?_
                      refine lv_topi (fun x_1176 ex_1176 => ?_)
                      replace hF := hF.trans (ap_n ex_1176)
                      refine pp_i (v := x_1176) (ty := .int) (C := RX4) (T := TX4) (N := 12) hx hb hts (tw_i inlX4) tyX4 tyX4_ok nmX4 hown hK hP hD hS hL_this hK_this (by decide +kernel) rfl 7 135 (by decide +kernel) (hts _ (tw_c tw_759)) rfl (tyX4_ok 7 (by decide +kernel)) rfl rfl (Nat.le_of_ble_eq_true rfl) (ps_135 _ _ _ _ _) dX4_settle_70 (fun I_1177 H locs eI_1177 hP hD hS => ?_)
                      replace hFr := fr_I (f := 135) hFr hO_this (by decide +kernel) eI_1177
                      replace hF := hF.trans (ap_n (vI_st (f := 135) hO_this (by decide +kernel) eI_1177))
                      have hG := GX.wI hG 135 rfl eI_1177 (rg_w (rg_full _) (by decide +kernel)) (by decide +kernel)
                      have tt_1178 : (I_1177 132 this).toInt = (I_1156 132 this).toInt := by rw [eI_1177, pq_uf _ _ _ (by decide +kernel)]
                      have tt_1179 : (I_1177 134 this).toInt = (I_1156 134 this).toInt := by rw [eI_1177, pq_uf _ _ _ (by decide +kernel)]
                      have tt_1180 : (I_1177 129 this).toInt = (I_1156 129 this).toInt := by rw [eI_1177, pq_uf _ _ _ (by decide +kernel)]
                      refine lv_goto (tgt := 0) hx hb dX4_settle_73 (by decide +kernel) ?_
                      exact ih_1109 I_1177 ri_1157 _ _ _ (by omega) (ft_t hrel_1113 hp_1162) (ms_fd_isub hm_1106 ((congrFun (show I_1177 134 = I_1156 134 from by rw [eI_1177]; exact pq_uf _ _ _ (by decide +kernel)) this).trans ((congrFun (hg_1159.2.1 134 (by decide +kernel) (by decide +kernel)) this).trans (by rw [eI_1146]; exact pq_us _ _ _ _))) ex_1144 rfl (kk := 1) rfl (by decide +kernel) h_1124 (by decide +kernel) (by decide +kernel)) hF hFr hG hP hD hS (lv_sub hl [1, 2] rfl)
                    · replace hF := hF.trans (if_neg c_1169)
                      have tc_1181 : (x_1152).toInt ≠ 11 := fun q => c_1169 (Int32.toInt_inj.mp q)
                      refine lv_iload_n hx hb dX4_settle_57 rfl (lv_at hl 0 rfl) ?_
                      refine lv_bipush (v := 35) hx hb dX4_settle_58 (by decide +kernel) ?_
                      refine lv_icmp_ne (tgt := 73) hx hb dX4_settle_60 (by decide +kernel) (fun c_1182 => ?_) (fun c_1182 => ?_)
                      · replace hF := hF.trans (if_neg c_1182)
                        have tc_1186 : (x_1152).toInt ≠ 35 := fun q => c_1182 (Int32.toInt_inj.mp q)
                        refine lv_goto (tgt := 0) hx hb dX4_settle_73 (by decide +kernel) ?_
                        exact ih_1109 I_1156 ri_1157 _ _ _ (by omega) (ft_t hrel_1113 hp_1162) (ms_fd_isub hm_1106 ((congrFun (hg_1159.2.1 134 (by decide +kernel) (by decide +kernel)) this).trans (by rw [eI_1146]; exact pq_us _ _ _ _)) ex_1144 rfl (kk := 1) rfl (by decide +kernel) h_1124 (by decide +kernel) (by decide +kernel)) hF hFr hG hP hD hS (lv_sub hl [1, 2] rfl)
                      · replace hF := hF.trans (if_pos c_1182)
                        have tc_1187 : (x_1152).toInt = 35 := congrArg Int32.toInt c_1182
                        have h_1188 : rg x_1152 35 35 := rg_and (rg_full _) (rg_of_eq c_1182 (rg_k (35 : Int32) 35 rfl)) (by decide +kernel)
                        have uh_1188 := h_1188.1
                        have vh_1188 := h_1188.2
                        refine lv_aload_n hx hb dX4_settle_63 rfl (lv_at hl 1 rfl) ?_
                        refine lv_dup hx hb dX4_settle_64 rfl ?_
                        refine pg_f (v := .int (I_1156 135 this)) (C := RX4) (T := TX4) (N := 12) hx hb hts (tw_i inlX4) hown hK hP hL_this hK_this (by decide +kernel) rfl 7 (by decide +kernel) (hts _ (tw_c tw_759)) rfl dX4_settle_65 ?_
                        replace hF := hF.trans (ap_n (vI_e (f := 135) hO_this (by decide +kernel)))
                        refine lv_iconst (v := 1) hx hb dX4_settle_68 (by decide +kernel) ?_
                        refine lv_isub hx hb dX4_settle_69 ?_
                        refine lv_topi (fun x_1190 ex_1190 => ?_)
                        replace hF := hF.trans (ap_n ex_1190)
                        refine pp_i (v := x_1190) (ty := .int) (C := RX4) (T := TX4) (N := 12) hx hb hts (tw_i inlX4) tyX4 tyX4_ok nmX4 hown hK hP hD hS hL_this hK_this (by decide +kernel) rfl 7 135 (by decide +kernel) (hts _ (tw_c tw_759)) rfl (tyX4_ok 7 (by decide +kernel)) rfl rfl (Nat.le_of_ble_eq_true rfl) (ps_135 _ _ _ _ _) dX4_settle_70 (fun I_1191 H locs eI_1191 hP hD hS => ?_)
                        replace hFr := fr_I (f := 135) hFr hO_this (by decide +kernel) eI_1191
                        replace hF := hF.trans (ap_n (vI_st (f := 135) hO_this (by decide +kernel) eI_1191))
                        have hG := GX.wI hG 135 rfl eI_1191 (rg_w (rg_full _) (by decide +kernel)) (by decide +kernel)
                        have tt_1192 : (I_1191 132 this).toInt = (I_1156 132 this).toInt := by rw [eI_1191, pq_uf _ _ _ (by decide +kernel)]
                        have tt_1193 : (I_1191 134 this).toInt = (I_1156 134 this).toInt := by rw [eI_1191, pq_uf _ _ _ (by decide +kernel)]
                        have tt_1194 : (I_1191 129 this).toInt = (I_1156 129 this).toInt := by rw [eI_1191, pq_uf _ _ _ (by decide +kernel)]
                        refine lv_goto (tgt := 0) hx hb dX4_settle_73 (by decide +kernel) ?_
                        exact ih_1109 I_1191 ri_1157 _ _ _ (by omega) (ft_t hrel_1113 hp_1162) (ms_fd_isub hm_1106 ((congrFun (show I_1191 134 = I_1156 134 from by rw [eI_1191]; exact pq_uf _ _ _ (by decide +kernel)) this).trans ((congrFun (hg_1159.2.1 134 (by decide +kernel) (by decide +kernel)) this).trans (by rw [eI_1146]; exact pq_us _ _ _ _))) ex_1144 rfl (kk := 1) rfl (by decide +kernel) h_1124 (by decide +kernel) (by decide +kernel)) hF hFr hG hP hD hS (lv_sub hl [1, 2] rfl)
            replace hF := hF.trans (ap_n (vI_e (f := 134) hO_this (by decide +kernel)))
            exact L_1108 _ I_821 ri_45 _ _ _ (by omega) (ft_t (fun _ _ => rfl) hp_50) (Nat.lt_succ_self _) hF hFr hG hP hD hS (lv_sub hl [1, 2] rfl)
  exact go _ _ _ hP hD hS hl

set_option maxRecDepth 100000 in
def g_X4_readBehindOne (I : Nat → Int32) (J : Nat → Int64) (ri : Nat → Nat → Int32) (rj : Nat → Nat → Int64) (rq : Nat → Nat → Option Nat) : Int32 × vM := (ap1 (I 194) fun (y_1 : Int32) => (ap1 (va_up I 137 (0 : Int32)) fun (I_2 : Nat → Int32) => (if (y_1) < (25 : Int32) then (ap1 (I_2 136) fun (y_15 : Int32) => (if (y_15) ≤ (0 : Int32) then (ap1 (I_2 138) fun (y_24 : Int32) => (if (y_24) = (0 : Int32) then (if (y_1) < (19 : Int32) then (bnV (g_X4_refuse (1 : Int32) I_2 J ri rj rq) fun (I_220 : Nat → Int32) (_ : Nat → Int64) (_ : Nat → Nat → Int32) (_ : Nat → Nat → Int64) (_ : Nat → Nat → Option Nat) => (bnV (g_X4_settle (1 : Int32) I_220 J ri rj rq) fun (I_234 : Nat → Int32) (_ : Nat → Int64) (ri_235 : Nat → Nat → Int32) (_ : Nat → Nat → Int64) (_ : Nat → Nat → Option Nat) => (ap1 (va_up I_234 139 (1 : Int32)) fun (I_248 : Nat → Int32) => ((0 : Int32), I_248, J, ri_235, rj, rq)))) else (ap1 (va_up I_2 138 (1 : Int32)) fun (I_263 : Nat → Int32) => (ap1 (g_X4_rank (y_1)) fun (x_269 : Int32) => (bnV (g_X4_settle x_269 I_263 J ri rj rq) fun (I_278 : Nat → Int32) (_ : Nat → Int64) (ri_279 : Nat → Nat → Int32) (_ : Nat → Nat → Int64) (_ : Nat → Nat → Option Nat) => (bnV (g_X4_await (y_1) I_278 J ri_279 rj rq) fun (I_294 : Nat → Int32) (_ : Nat → Int64) (ri_295 : Nat → Nat → Int32) (_ : Nat → Nat → Int64) (_ : Nat → Nat → Option Nat) => ((1 : Int32), I_294, J, ri_295, rj, rq)))))) else (if (y_1) = (9 : Int32) then (ap1 (va_up I_2 138 (0 : Int32)) fun (I_43 : Nat → Int32) => (ap1 (va_up I_43 137 (1 : Int32)) fun (I_49 : Nat → Int32) => (ap1 (g_X4_rank (y_1)) fun (x_55 : Int32) => (bnV (g_X4_settle x_55 I_49 J ri rj rq) fun (I_64 : Nat → Int32) (_ : Nat → Int64) (ri_65 : Nat → Nat → Int32) (_ : Nat → Nat → Int64) (_ : Nat → Nat → Option Nat) => (bnV (g_X4_await (y_1) I_64 J ri_65 rj rq) fun (I_80 : Nat → Int32) (_ : Nat → Int64) (ri_81 : Nat → Nat → Int32) (_ : Nat → Nat → Int64) (_ : Nat → Nat → Option Nat) => ((1 : Int32), I_80, J, ri_81, rj, rq)))))) else (if (y_1) = (10 : Int32) then (ap1 (va_up I_2 138 (0 : Int32)) fun (I_149 : Nat → Int32) => (ap1 (va_up I_149 137 (1 : Int32)) fun (I_155 : Nat → Int32) => (ap1 (g_X4_rank (y_1)) fun (x_161 : Int32) => (bnV (g_X4_settle x_161 I_155 J ri rj rq) fun (I_170 : Nat → Int32) (_ : Nat → Int64) (ri_171 : Nat → Nat → Int32) (_ : Nat → Nat → Int64) (_ : Nat → Nat → Option Nat) => (bnV (g_X4_await (y_1) I_170 J ri_171 rj rq) fun (I_186 : Nat → Int32) (_ : Nat → Int64) (ri_187 : Nat → Nat → Int32) (_ : Nat → Nat → Int64) (_ : Nat → Nat → Option Nat) => ((1 : Int32), I_186, J, ri_187, rj, rq)))))) else (bnV (g_X4_refuse (1 : Int32) I_2 J ri rj rq) fun (I_113 : Nat → Int32) (_ : Nat → Int64) (_ : Nat → Nat → Int32) (_ : Nat → Nat → Int64) (_ : Nat → Nat → Option Nat) => (bnV (g_X4_settle (1 : Int32) I_113 J ri rj rq) fun (I_127 : Nat → Int32) (_ : Nat → Int64) (ri_128 : Nat → Nat → Int32) (_ : Nat → Nat → Int64) (_ : Nat → Nat → Option Nat) => (ap1 (va_up I_127 139 (1 : Int32)) fun (I_141 : Nat → Int32) => ((0 : Int32), I_141, J, ri_128, rj, rq)))))))) else (bnV (g_X4_refuse (1 : Int32) I_2 J ri rj rq) fun (I_318 : Nat → Int32) (_ : Nat → Int64) (_ : Nat → Nat → Int32) (_ : Nat → Nat → Int64) (_ : Nat → Nat → Option Nat) => (bnV (g_X4_settle (1 : Int32) I_318 J ri rj rq) fun (I_332 : Nat → Int32) (_ : Nat → Int64) (ri_333 : Nat → Nat → Int32) (_ : Nat → Nat → Int64) (_ : Nat → Nat → Option Nat) => (ap1 (I_332 136) fun (y_346 : Int32) => (ap1 ((y_346) - (1 : Int32)) fun (x_347 : Int32) => (ap1 (va_up I_332 136 x_347) fun (I_348 : Nat → Int32) => (ap1 (I_348 135) fun (y_354 : Int32) => (ap1 ((y_354) - (1 : Int32)) fun (x_355 : Int32) => (ap1 (va_up I_348 135 x_355) fun (I_356 : Nat → Int32) => (ap1 (I_356 134) fun (y_363 : Int32) => (ap1 ((y_363) - (1 : Int32)) fun (x_364 : Int32) => (ap1 (if (0 : Int32) < x_364 then x_364 else (0 : Int32)) fun (x_366 : Int32) => (ap1 (va_up I_356 134 x_366) fun (I_368 : Nat → Int32) => ((0 : Int32), I_368, J, ri_333, rj, rq))))))))))))))) else (if (28 : Int32) < (y_1) then (ap1 (I_2 136) fun (y_383 : Int32) => (if (y_383) ≤ (0 : Int32) then (ap1 (I_2 138) fun (y_392 : Int32) => (if (y_392) = (0 : Int32) then (bnV (g_X4_refuse (1 : Int32) I_2 J ri rj rq) fun (I_506 : Nat → Int32) (_ : Nat → Int64) (_ : Nat → Nat → Int32) (_ : Nat → Nat → Int64) (_ : Nat → Nat → Option Nat) => (bnV (g_X4_settle (1 : Int32) I_506 J ri rj rq) fun (I_520 : Nat → Int32) (_ : Nat → Int64) (ri_521 : Nat → Nat → Int32) (_ : Nat → Nat → Int64) (_ : Nat → Nat → Option Nat) => (ap1 (va_up I_520 139 (1 : Int32)) fun (I_534 : Nat → Int32) => ((0 : Int32), I_534, J, ri_521, rj, rq)))) else (if (y_1) = (32 : Int32) then (bnV (g_X4_settle (1 : Int32) I_2 J ri rj rq) fun (I_427 : Nat → Int32) (_ : Nat → Int64) (ri_428 : Nat → Nat → Int32) (_ : Nat → Nat → Int64) (_ : Nat → Nat → Option Nat) => (ap1 (va_up I_427 139 (1 : Int32)) fun (I_441 : Nat → Int32) => ((0 : Int32), I_441, J, ri_428, rj, rq))) else (bnV (g_X4_refuse (1 : Int32) I_2 J ri rj rq) fun (I_450 : Nat → Int32) (_ : Nat → Int64) (_ : Nat → Nat → Int32) (_ : Nat → Nat → Int64) (_ : Nat → Nat → Option Nat) => (bnV (g_X4_settle (1 : Int32) I_450 J ri rj rq) fun (I_464 : Nat → Int32) (_ : Nat → Int64) (ri_465 : Nat → Nat → Int32) (_ : Nat → Nat → Int64) (_ : Nat → Nat → Option Nat) => (ap1 (va_up I_464 139 (1 : Int32)) fun (I_478 : Nat → Int32) => ((0 : Int32), I_478, J, ri_465, rj, rq))))))) else (if (y_1) = (30 : Int32) then (bnV (g_X4_settle (1 : Int32) I_2 J ri rj rq) fun (I_553 : Nat → Int32) (_ : Nat → Int64) (ri_554 : Nat → Nat → Int32) (_ : Nat → Nat → Int64) (_ : Nat → Nat → Option Nat) => (ap1 (I_553 136) fun (y_567 : Int32) => (ap1 ((y_567) - (1 : Int32)) fun (x_568 : Int32) => (ap1 (va_up I_553 136 x_568) fun (I_569 : Nat → Int32) => (ap1 (I_569 135) fun (y_575 : Int32) => (ap1 ((y_575) - (1 : Int32)) fun (x_576 : Int32) => (ap1 (va_up I_569 135 x_576) fun (I_577 : Nat → Int32) => (ap1 (I_577 134) fun (y_584 : Int32) => (ap1 ((y_584) - (1 : Int32)) fun (x_585 : Int32) => (ap1 (if (0 : Int32) < x_585 then x_585 else (0 : Int32)) fun (x_587 : Int32) => (ap1 (va_up I_577 134 x_587) fun (I_589 : Nat → Int32) => ((0 : Int32), I_589, J, ri_554, rj, rq)))))))))))) else (bnV (g_X4_refuse (1 : Int32) I_2 J ri rj rq) fun (I_598 : Nat → Int32) (_ : Nat → Int64) (_ : Nat → Nat → Int32) (_ : Nat → Nat → Int64) (_ : Nat → Nat → Option Nat) => (bnV (g_X4_settle (1 : Int32) I_598 J ri rj rq) fun (I_612 : Nat → Int32) (_ : Nat → Int64) (ri_613 : Nat → Nat → Int32) (_ : Nat → Nat → Int64) (_ : Nat → Nat → Option Nat) => (ap1 (I_612 136) fun (y_626 : Int32) => (ap1 ((y_626) - (1 : Int32)) fun (x_627 : Int32) => (ap1 (va_up I_612 136 x_627) fun (I_628 : Nat → Int32) => (ap1 (I_628 135) fun (y_634 : Int32) => (ap1 ((y_634) - (1 : Int32)) fun (x_635 : Int32) => (ap1 (va_up I_628 135 x_635) fun (I_636 : Nat → Int32) => (ap1 (I_636 134) fun (y_643 : Int32) => (ap1 ((y_643) - (1 : Int32)) fun (x_644 : Int32) => (ap1 (if (0 : Int32) < x_644 then x_644 else (0 : Int32)) fun (x_646 : Int32) => (ap1 (va_up I_636 134 x_646) fun (I_648 : Nat → Int32) => ((0 : Int32), I_648, J, ri_613, rj, rq)))))))))))))))) else (ap1 (g_X4_rank (y_1)) fun (x_656 : Int32) => (bnV (g_X4_settle x_656 I_2 J ri rj rq) fun (I_665 : Nat → Int32) (_ : Nat → Int64) (ri_666 : Nat → Nat → Int32) (_ : Nat → Nat → Int64) (_ : Nat → Nat → Option Nat) => (bnV (g_X4_await (y_1) I_665 J ri_666 rj rq) fun (I_681 : Nat → Int32) (_ : Nat → Int64) (ri_682 : Nat → Nat → Int32) (_ : Nat → Nat → Int64) (_ : Nat → Nat → Option Nat) => ((1 : Int32), I_681, J, ri_682, rj, rq))))))))
set_option maxRecDepth 100000 in
theorem g_X4_readBehindOne_e {I : Nat → Int32} {J : Nat → Int64} {ri : Nat → Nat → Int32} {rj : Nat → Nat → Int64} {rq : Nat → Nat → Option Nat} : g_X4_readBehindOne I J ri rj rq = (ap1 (I 194) fun (y_1 : Int32) => (ap1 (va_up I 137 (0 : Int32)) fun (I_2 : Nat → Int32) => (if (y_1) < (25 : Int32) then (ap1 (I_2 136) fun (y_15 : Int32) => (if (y_15) ≤ (0 : Int32) then (ap1 (I_2 138) fun (y_24 : Int32) => (if (y_24) = (0 : Int32) then (if (y_1) < (19 : Int32) then (bnV (g_X4_refuse (1 : Int32) I_2 J ri rj rq) fun (I_220 : Nat → Int32) (_ : Nat → Int64) (_ : Nat → Nat → Int32) (_ : Nat → Nat → Int64) (_ : Nat → Nat → Option Nat) => (bnV (g_X4_settle (1 : Int32) I_220 J ri rj rq) fun (I_234 : Nat → Int32) (_ : Nat → Int64) (ri_235 : Nat → Nat → Int32) (_ : Nat → Nat → Int64) (_ : Nat → Nat → Option Nat) => (ap1 (va_up I_234 139 (1 : Int32)) fun (I_248 : Nat → Int32) => ((0 : Int32), I_248, J, ri_235, rj, rq)))) else (ap1 (va_up I_2 138 (1 : Int32)) fun (I_263 : Nat → Int32) => (ap1 (g_X4_rank (y_1)) fun (x_269 : Int32) => (bnV (g_X4_settle x_269 I_263 J ri rj rq) fun (I_278 : Nat → Int32) (_ : Nat → Int64) (ri_279 : Nat → Nat → Int32) (_ : Nat → Nat → Int64) (_ : Nat → Nat → Option Nat) => (bnV (g_X4_await (y_1) I_278 J ri_279 rj rq) fun (I_294 : Nat → Int32) (_ : Nat → Int64) (ri_295 : Nat → Nat → Int32) (_ : Nat → Nat → Int64) (_ : Nat → Nat → Option Nat) => ((1 : Int32), I_294, J, ri_295, rj, rq)))))) else (if (y_1) = (9 : Int32) then (ap1 (va_up I_2 138 (0 : Int32)) fun (I_43 : Nat → Int32) => (ap1 (va_up I_43 137 (1 : Int32)) fun (I_49 : Nat → Int32) => (ap1 (g_X4_rank (y_1)) fun (x_55 : Int32) => (bnV (g_X4_settle x_55 I_49 J ri rj rq) fun (I_64 : Nat → Int32) (_ : Nat → Int64) (ri_65 : Nat → Nat → Int32) (_ : Nat → Nat → Int64) (_ : Nat → Nat → Option Nat) => (bnV (g_X4_await (y_1) I_64 J ri_65 rj rq) fun (I_80 : Nat → Int32) (_ : Nat → Int64) (ri_81 : Nat → Nat → Int32) (_ : Nat → Nat → Int64) (_ : Nat → Nat → Option Nat) => ((1 : Int32), I_80, J, ri_81, rj, rq)))))) else (if (y_1) = (10 : Int32) then (ap1 (va_up I_2 138 (0 : Int32)) fun (I_149 : Nat → Int32) => (ap1 (va_up I_149 137 (1 : Int32)) fun (I_155 : Nat → Int32) => (ap1 (g_X4_rank (y_1)) fun (x_161 : Int32) => (bnV (g_X4_settle x_161 I_155 J ri rj rq) fun (I_170 : Nat → Int32) (_ : Nat → Int64) (ri_171 : Nat → Nat → Int32) (_ : Nat → Nat → Int64) (_ : Nat → Nat → Option Nat) => (bnV (g_X4_await (y_1) I_170 J ri_171 rj rq) fun (I_186 : Nat → Int32) (_ : Nat → Int64) (ri_187 : Nat → Nat → Int32) (_ : Nat → Nat → Int64) (_ : Nat → Nat → Option Nat) => ((1 : Int32), I_186, J, ri_187, rj, rq)))))) else (bnV (g_X4_refuse (1 : Int32) I_2 J ri rj rq) fun (I_113 : Nat → Int32) (_ : Nat → Int64) (_ : Nat → Nat → Int32) (_ : Nat → Nat → Int64) (_ : Nat → Nat → Option Nat) => (bnV (g_X4_settle (1 : Int32) I_113 J ri rj rq) fun (I_127 : Nat → Int32) (_ : Nat → Int64) (ri_128 : Nat → Nat → Int32) (_ : Nat → Nat → Int64) (_ : Nat → Nat → Option Nat) => (ap1 (va_up I_127 139 (1 : Int32)) fun (I_141 : Nat → Int32) => ((0 : Int32), I_141, J, ri_128, rj, rq)))))))) else (bnV (g_X4_refuse (1 : Int32) I_2 J ri rj rq) fun (I_318 : Nat → Int32) (_ : Nat → Int64) (_ : Nat → Nat → Int32) (_ : Nat → Nat → Int64) (_ : Nat → Nat → Option Nat) => (bnV (g_X4_settle (1 : Int32) I_318 J ri rj rq) fun (I_332 : Nat → Int32) (_ : Nat → Int64) (ri_333 : Nat → Nat → Int32) (_ : Nat → Nat → Int64) (_ : Nat → Nat → Option Nat) => (ap1 (I_332 136) fun (y_346 : Int32) => (ap1 ((y_346) - (1 : Int32)) fun (x_347 : Int32) => (ap1 (va_up I_332 136 x_347) fun (I_348 : Nat → Int32) => (ap1 (I_348 135) fun (y_354 : Int32) => (ap1 ((y_354) - (1 : Int32)) fun (x_355 : Int32) => (ap1 (va_up I_348 135 x_355) fun (I_356 : Nat → Int32) => (ap1 (I_356 134) fun (y_363 : Int32) => (ap1 ((y_363) - (1 : Int32)) fun (x_364 : Int32) => (ap1 (if (0 : Int32) < x_364 then x_364 else (0 : Int32)) fun (x_366 : Int32) => (ap1 (va_up I_356 134 x_366) fun (I_368 : Nat → Int32) => ((0 : Int32), I_368, J, ri_333, rj, rq))))))))))))))) else (if (28 : Int32) < (y_1) then (ap1 (I_2 136) fun (y_383 : Int32) => (if (y_383) ≤ (0 : Int32) then (ap1 (I_2 138) fun (y_392 : Int32) => (if (y_392) = (0 : Int32) then (bnV (g_X4_refuse (1 : Int32) I_2 J ri rj rq) fun (I_506 : Nat → Int32) (_ : Nat → Int64) (_ : Nat → Nat → Int32) (_ : Nat → Nat → Int64) (_ : Nat → Nat → Option Nat) => (bnV (g_X4_settle (1 : Int32) I_506 J ri rj rq) fun (I_520 : Nat → Int32) (_ : Nat → Int64) (ri_521 : Nat → Nat → Int32) (_ : Nat → Nat → Int64) (_ : Nat → Nat → Option Nat) => (ap1 (va_up I_520 139 (1 : Int32)) fun (I_534 : Nat → Int32) => ((0 : Int32), I_534, J, ri_521, rj, rq)))) else (if (y_1) = (32 : Int32) then (bnV (g_X4_settle (1 : Int32) I_2 J ri rj rq) fun (I_427 : Nat → Int32) (_ : Nat → Int64) (ri_428 : Nat → Nat → Int32) (_ : Nat → Nat → Int64) (_ : Nat → Nat → Option Nat) => (ap1 (va_up I_427 139 (1 : Int32)) fun (I_441 : Nat → Int32) => ((0 : Int32), I_441, J, ri_428, rj, rq))) else (bnV (g_X4_refuse (1 : Int32) I_2 J ri rj rq) fun (I_450 : Nat → Int32) (_ : Nat → Int64) (_ : Nat → Nat → Int32) (_ : Nat → Nat → Int64) (_ : Nat → Nat → Option Nat) => (bnV (g_X4_settle (1 : Int32) I_450 J ri rj rq) fun (I_464 : Nat → Int32) (_ : Nat → Int64) (ri_465 : Nat → Nat → Int32) (_ : Nat → Nat → Int64) (_ : Nat → Nat → Option Nat) => (ap1 (va_up I_464 139 (1 : Int32)) fun (I_478 : Nat → Int32) => ((0 : Int32), I_478, J, ri_465, rj, rq))))))) else (if (y_1) = (30 : Int32) then (bnV (g_X4_settle (1 : Int32) I_2 J ri rj rq) fun (I_553 : Nat → Int32) (_ : Nat → Int64) (ri_554 : Nat → Nat → Int32) (_ : Nat → Nat → Int64) (_ : Nat → Nat → Option Nat) => (ap1 (I_553 136) fun (y_567 : Int32) => (ap1 ((y_567) - (1 : Int32)) fun (x_568 : Int32) => (ap1 (va_up I_553 136 x_568) fun (I_569 : Nat → Int32) => (ap1 (I_569 135) fun (y_575 : Int32) => (ap1 ((y_575) - (1 : Int32)) fun (x_576 : Int32) => (ap1 (va_up I_569 135 x_576) fun (I_577 : Nat → Int32) => (ap1 (I_577 134) fun (y_584 : Int32) => (ap1 ((y_584) - (1 : Int32)) fun (x_585 : Int32) => (ap1 (if (0 : Int32) < x_585 then x_585 else (0 : Int32)) fun (x_587 : Int32) => (ap1 (va_up I_577 134 x_587) fun (I_589 : Nat → Int32) => ((0 : Int32), I_589, J, ri_554, rj, rq)))))))))))) else (bnV (g_X4_refuse (1 : Int32) I_2 J ri rj rq) fun (I_598 : Nat → Int32) (_ : Nat → Int64) (_ : Nat → Nat → Int32) (_ : Nat → Nat → Int64) (_ : Nat → Nat → Option Nat) => (bnV (g_X4_settle (1 : Int32) I_598 J ri rj rq) fun (I_612 : Nat → Int32) (_ : Nat → Int64) (ri_613 : Nat → Nat → Int32) (_ : Nat → Nat → Int64) (_ : Nat → Nat → Option Nat) => (ap1 (I_612 136) fun (y_626 : Int32) => (ap1 ((y_626) - (1 : Int32)) fun (x_627 : Int32) => (ap1 (va_up I_612 136 x_627) fun (I_628 : Nat → Int32) => (ap1 (I_628 135) fun (y_634 : Int32) => (ap1 ((y_634) - (1 : Int32)) fun (x_635 : Int32) => (ap1 (va_up I_628 135 x_635) fun (I_636 : Nat → Int32) => (ap1 (I_636 134) fun (y_643 : Int32) => (ap1 ((y_643) - (1 : Int32)) fun (x_644 : Int32) => (ap1 (if (0 : Int32) < x_644 then x_644 else (0 : Int32)) fun (x_646 : Int32) => (ap1 (va_up I_636 134 x_646) fun (I_648 : Nat → Int32) => ((0 : Int32), I_648, J, ri_613, rj, rq)))))))))))))))) else (ap1 (g_X4_rank (y_1)) fun (x_656 : Int32) => (bnV (g_X4_settle x_656 I_2 J ri rj rq) fun (I_665 : Nat → Int32) (_ : Nat → Int64) (ri_666 : Nat → Nat → Int32) (_ : Nat → Nat → Int64) (_ : Nat → Nat → Option Nat) => (bnV (g_X4_await (y_1) I_665 J ri_666 rj rq) fun (I_681 : Nat → Int32) (_ : Nat → Int64) (ri_682 : Nat → Nat → Int32) (_ : Nat → Nat → Int64) (_ : Nat → Nat → Option Nat) => ((1 : Int32), I_681, J, ri_682, rj, rq)))))))) := rfl
set_option maxHeartbeats 4000000 in
set_option maxRecDepth 100000 in
theorem s_X4_readBehindOne (l : Launch) (D : va_G) (t : pq_T) (σ : pq_S) (I : Nat → Nat → Int32) (J : Nat → Nat → Int64) (ri : Nat → Nat → Int32) (rj : Nat → Nat → Int64) (rq : Nat → Nat → Option Nat) (sz : Nat) (tg : Nat → Nat) (hSH : SH σ tg) (hG0 : GS tg σ I ri rq) (this : Nat) (hL_this : this ∈ σ.1) (hK_this : σ.2.1 this = 4) (this_scanner : Nat) (hR_this_scanner : σ.2.2.1 128 this = some this_scanner) (hL_this_scanner : this_scanner ∈ σ.1) (hK_this_scanner : σ.2.1 this_scanner = 6) : MetI l yX4_readBehindOne (wa yX4_readBehindOne cX4_readBehindOne 2 (some .boolean)) ({ frames := 2, cells := 0, slots := 0, locals := 43 }) [.ref this] D t σ (I, J, ri, rj, rq) sz 0 0 (fun (r : Int32) (u : pq_S × pq_M) => ∃ I' : Nat → Nat → Int32, ∃ ri' : Nat → Nat → Int32, u = (σ, I', J, ri', rj, rq) ∧ GX [132, 134, 129] tg σ I ri rj I' ri' rj rq ∧ ((I' 132 this).toInt + (I' 134 this).toInt ≤ (I 132 this).toInt + (I 134 this).toInt + 1 ∧ ((I 194 this_scanner).toInt = 33 → (I' 132 this).toInt + (I' 134 this).toInt ≤ (I 132 this).toInt + (I 134 this).toInt)) ∧ (∀ q, tg q = 258 → ri' q = ri q) ∧ g_X4_readBehindOne (vI 4 σ this I) (vJ 4 σ this J) (vR 4 σ this ri) (vL 4 σ this rj) (vQ 4 σ this rq) = (r, (vI 4 σ this I'), (vJ 4 σ this J), (vR 4 σ this ri'), (vL 4 σ this rj), (vQ 4 σ this rq)) ∧ FR 4 tg σ this (I, J, ri, rj, rq) (I', J, ri', rj, rq) ∧ ((r = 1 ∧ True) ∨ (r = 0 ∧ True))) := by
  refine Met.ofW (cc := cX4_readBehindOne) (maxL := 2) (ret := (some .boolean)) (by decide +kernel) rfl ?_
  intro p e s m args below meth c s₁ B hml hv
  obtain ⟨rfl, hsz, hP, hK, hD0, hN⟩ := hv
  have hx := B.exec
  have hb := B.bytes
  have hr := B.returns
  have hts := atoms_spec (ws := (wa yX4_readBehindOne cX4_readBehindOne 2 (some .boolean))) B.pre
  have hown : s.vm.findClass RX4 = some m.cls := findClass_of_methodNamed B.named
  have hlocks := B.notSynchronized
  subst hsz
  have hD : va_D (pq_B t σ (I, J, ri, rj, rq) s.heap.size) (pq_P t σ (I, J, ri, rj, rq)) := hD0.self
  generalize hAe : pq_B t σ (I, J, ri, rj, rq) s.heap.size = A at hD ⊢
  have hA : ∀ q : Nat, s.heap.size ≤ q → A q := fun q h => by rw [← hAe]; exact Or.inr h
  have hS : va_S A s.heap s.heap [] := va_S.rf
  have hG : GX [132, 134, 129] tg σ I ri rj I ri rj rq := ⟨hG0, fun _ _ _ => rfl, fun _ _ _ _ _ => rfl, fun _ _ _ _ _ => rfl⟩
  have hl := lv_entry ([.ref this]) (n := 2) (Nat.le_of_ble_eq_true rfl)
  rw [lg_entry_eq]
  generalize (lg_sl ([.ref this]) ++ List.replicate (2 - (lg_sl ([.ref this])).length) Slot.unset).toArray = ls at hl ⊢
  have hl : lv_has ls 2 [(0, .ref this)] := hl
  refine q_gen (fun Q hQ => ?_)
  have go : ∀ (H : Heap) (locs : List Loc) (ls : Array Slot), va_P D vwCl (pq_P t σ (I, J, ri, rj, rq)) H → va_D A (pq_P t σ (I, J, ri, rj, rq)) → va_S A s.heap H locs → lv_has ls 2 [(0, .ref this)] → W p l e ({ frames := 2, cells := 0, slots := 0, locals := 43 } : Room) s m (List.toArray ([.ref this] : List Value)) below meth c H locs 0 0 Q (F0 m 0 ls []) := by
    intro H locs ls hP hD hS hl
    have hO_this : this = vo σ 4 this := rfl
    have hVT : VT 4 σ tg this := vt_4 hSH hL_this hK_this
    have hFr : FR 4 tg σ this (I, J, ri, rj, rq) (I, J, ri, rj, rq) := fr_rf
    have hO_this_scanner : this_scanner = vo σ 6 this := vo_k (c := 4) hO_this hR_this_scanner
    obtain ⟨F, hF0⟩ : ∃ F, F = g_X4_readBehindOne (vI 4 σ this I) (vJ 4 σ this J) (vR 4 σ this ri) (vL 4 σ this rj) (vQ 4 σ this rq) := ⟨_, rfl⟩
    have hF := hF0.trans g_X4_readBehindOne_e
    refine lv_aload_n hx hb dX4_readBehindOne_0 rfl (lv_at hl 0 rfl) ?_
    refine pg_f (v := .ref this_scanner) (C := RX4) (T := TX4) (N := 12) hx hb hts (tw_i inlX4) hown hK hP hL_this hK_this (by decide +kernel) rfl 0 (by decide +kernel) (hts _ (tw_c tw_154)) (pq_hv rfl hR_this_scanner) dX4_readBehindOne_1 ?_
    refine pg_f (v := .int (I 194 this_scanner)) (C := RX6) (T := TX6) (N := 6) hx hb hts (tw_i inlX6) hown hK hP hL_this_scanner hK_this_scanner (by decide +kernel) rfl 2 (by decide +kernel) (hts _ (tw_c tw_657)) rfl dX4_readBehindOne_4 ?_
    replace hF := hF.trans (ap_n (vI_e (f := 194) hO_this_scanner (by decide +kernel)))
    refine lv_istore_n (lv' := [(1, .int (I 194 this_scanner)), (0, .ref this)]) hx hb dX4_readBehindOne_7 rfl hl (by decide +kernel) rfl (fun ls hl => ?_)
    refine lv_aload_n hx hb dX4_readBehindOne_8 rfl (lv_at hl 1 rfl) ?_
    refine lv_iconst (v := 0) hx hb dX4_readBehindOne_9 (by decide +kernel) ?_
    refine pp_i (v := 0) (ty := .boolean) (C := RX4) (T := TX4) (N := 12) hx hb hts (tw_i inlX4) tyX4 tyX4_ok nmX4 hown hK hP hD hS hL_this hK_this (by decide +kernel) rfl 9 137 (by decide +kernel) (hts _ (tw_c tw_761)) rfl (tyX4_ok 9 (by decide +kernel)) rfl (by decide +kernel) (Nat.le_of_ble_eq_true rfl) (ps_137 _ _ _ _ _) dX4_readBehindOne_10 (fun I_2 H locs eI_2 hP hD hS => ?_)
    replace hFr := fr_I (f := 137) hFr hO_this (by decide +kernel) eI_2
    replace hF := hF.trans (ap_n (vI_st (f := 137) hO_this (by decide +kernel) eI_2))
    have hG := GX.wI hG 137 rfl eI_2 (rg_w (rg_k (0 : Int32) 0 rfl) (by decide +kernel)) (by decide +kernel)
    have tt_3 : (I_2 132 this).toInt = (I 132 this).toInt := by rw [eI_2, pq_uf _ _ _ (by decide +kernel)]
    have tt_4 : (I_2 134 this).toInt = (I 134 this).toInt := by rw [eI_2, pq_uf _ _ _ (by decide +kernel)]
    have tt_5 : (I_2 129 this).toInt = (I 129 this).toInt := by rw [eI_2, pq_uf _ _ _ (by decide +kernel)]
    have tt_6 : (I_2 197 this_scanner).toInt = (I 197 this_scanner).toInt := by rw [eI_2, pq_uf _ _ _ (by decide +kernel)]
    have tt_7 : (I_2 194 this_scanner).toInt = (I 194 this_scanner).toInt := by rw [eI_2, pq_uf _ _ _ (by decide +kernel)]
    refine lv_iload_n hx hb dX4_readBehindOne_13 rfl (lv_at hl 0 rfl) ?_
    refine lv_bipush (v := 25) hx hb dX4_readBehindOne_14 (by decide +kernel) ?_
    refine lv_icmp_lt (tgt := 40) hx hb dX4_readBehindOne_16 (by decide +kernel) (fun c_8 => ?_) (fun c_8 => ?_)
    · replace hF := hF.trans (if_pos c_8)
      have tc_13 : (I 194 this_scanner).toInt < 25 := Int32.lt_iff_toInt_lt.mp c_8
      have h_14 : rg (I 194 this_scanner) (-2147483648) 24 := rg_lt1 c_8 (rg_full _) (rg_k (25 : Int32) 25 rfl) (by decide +kernel)
      have uh_14 := h_14.1
      have vh_14 := h_14.2
      refine lv_aload_n hx hb dX4_readBehindOne_40 rfl (lv_at hl 1 rfl) ?_
      refine pg_f (v := .int (I_2 136 this)) (C := RX4) (T := TX4) (N := 12) hx hb hts (tw_i inlX4) hown hK hP hL_this hK_this (by decide +kernel) rfl 8 (by decide +kernel) (hts _ (tw_c tw_760)) rfl dX4_readBehindOne_41 ?_
      replace hF := hF.trans (ap_n (vI_e (f := 136) hO_this (by decide +kernel)))
      refine lv_if_le (tgt := 99) hx hb dX4_readBehindOne_44 (by decide +kernel) (fun c_16 => ?_) (fun c_16 => ?_)
      · replace hF := hF.trans (if_pos c_16)
        have tc_21 : (I_2 136 this).toInt ≤ 0 := Int32.le_iff_toInt_le.mp c_16
        have h_22 : rg (I_2 136 this) (-2147483648) 0 := rg_le1 c_16 (rg_full _) (rg_k (0 : Int32) 0 rfl) (by decide +kernel)
        have uh_22 := h_22.1
        have vh_22 := h_22.2
        refine lv_aload_n hx hb dX4_readBehindOne_99 rfl (lv_at hl 1 rfl) ?_
        refine pg_f (v := .int (I_2 138 this)) (C := RX4) (T := TX4) (N := 12) hx hb hts (tw_i inlX4) hown hK hP hL_this hK_this (by decide +kernel) rfl 10 (by decide +kernel) (hts _ (tw_c tw_762)) rfl dX4_readBehindOne_100 ?_
        have h_23 : rg (I_2 138 this) 0 1 := GX.rI hG 138 rfl
        have uh_23 := h_23.1
        have vh_23 := h_23.2
        replace hF := hF.trans (ap_n (vI_e (f := 138) hO_this (by decide +kernel)))
        refine lv_if_ne (tgt := 138) hx hb dX4_readBehindOne_103 (by decide +kernel) (fun c_25 => ?_) (fun c_25 => ?_)
        · replace hF := hF.trans (if_neg c_25)
          have tc_30 : (I_2 138 this).toInt ≠ 0 := fun q => c_25 (Int32.toInt_inj.mp q)
          have h_31 : rg (I_2 138 this) 1 1 := rg_ne c_25 h_23 0 rfl (by decide +kernel)
          have uh_31 := h_31.1
          have vh_31 := h_31.2
          refine lv_aload_n hx hb dX4_readBehindOne_138 rfl (lv_at hl 1 rfl) ?_
          refine pg_f (v := .int (I_2 138 this)) (C := RX4) (T := TX4) (N := 12) hx hb hts (tw_i inlX4) hown hK hP hL_this hK_this (by decide +kernel) rfl 10 (by decide +kernel) (hts _ (tw_c tw_762)) rfl dX4_readBehindOne_139 ?_
          refine lv_if_eq (tgt := 182) hx hb dX4_readBehindOne_142 (by decide +kernel) (fun c_32 => ?_) (fun c_32 => ?_)
          · have tc_35 : (I_2 138 this).toInt = 0 := congrArg Int32.toInt c_32
            exact (rg_empty (rg_and h_31 (rg_of_eq c_32 (rg_k (0 : Int32) 0 rfl)) (lo := 1) (hi := 0) (by decide +kernel)) (by decide +kernel)).elim
          · have tc_36 : (I_2 138 this).toInt ≠ 0 := fun q => c_32 (Int32.toInt_inj.mp q)
            refine lv_iload_n hx hb dX4_readBehindOne_145 rfl (lv_at hl 0 rfl) ?_
            refine lv_bipush (v := 9) hx hb dX4_readBehindOne_146 (by decide +kernel) ?_
            refine lv_icmp_eq (tgt := 157) hx hb dX4_readBehindOne_148 (by decide +kernel) (fun c_37 => ?_) (fun c_37 => ?_)
            · replace hF := hF.trans (if_pos c_37)
              have tc_41 : (I 194 this_scanner).toInt = 9 := congrArg Int32.toInt c_37
              have h_42 : rg (I 194 this_scanner) 9 9 := rg_and h_14 (rg_of_eq c_37 (rg_k (9 : Int32) 9 rfl)) (by decide +kernel)
              have uh_42 := h_42.1
              have vh_42 := h_42.2
              refine lv_aload_n hx hb dX4_readBehindOne_157 rfl (lv_at hl 1 rfl) ?_
              refine lv_iconst (v := 0) hx hb dX4_readBehindOne_158 (by decide +kernel) ?_
              refine pp_i (v := 0) (ty := .boolean) (C := RX4) (T := TX4) (N := 12) hx hb hts (tw_i inlX4) tyX4 tyX4_ok nmX4 hown hK hP hD hS hL_this hK_this (by decide +kernel) rfl 10 138 (by decide +kernel) (hts _ (tw_c tw_762)) rfl (tyX4_ok 10 (by decide +kernel)) rfl (by decide +kernel) (Nat.le_of_ble_eq_true rfl) (ps_138 _ _ _ _ _) dX4_readBehindOne_159 (fun I_43 H locs eI_43 hP hD hS => ?_)
              replace hFr := fr_I (f := 138) hFr hO_this (by decide +kernel) eI_43
              replace hF := hF.trans (ap_n (vI_st (f := 138) hO_this (by decide +kernel) eI_43))
              have hG := GX.wI hG 138 rfl eI_43 (rg_w (rg_k (0 : Int32) 0 rfl) (by decide +kernel)) (by decide +kernel)
              have tt_44 : (I_43 132 this).toInt = (I_2 132 this).toInt := by rw [eI_43, pq_uf _ _ _ (by decide +kernel)]
              have tt_45 : (I_43 134 this).toInt = (I_2 134 this).toInt := by rw [eI_43, pq_uf _ _ _ (by decide +kernel)]
              have tt_46 : (I_43 129 this).toInt = (I_2 129 this).toInt := by rw [eI_43, pq_uf _ _ _ (by decide +kernel)]
              have tt_47 : (I_43 197 this_scanner).toInt = (I_2 197 this_scanner).toInt := by rw [eI_43, pq_uf _ _ _ (by decide +kernel)]
              have tt_48 : (I_43 194 this_scanner).toInt = (I_2 194 this_scanner).toInt := by rw [eI_43, pq_uf _ _ _ (by decide +kernel)]
              refine lv_aload_n hx hb dX4_readBehindOne_162 rfl (lv_at hl 1 rfl) ?_
              refine lv_iconst (v := 1) hx hb dX4_readBehindOne_163 (by decide +kernel) ?_
              refine pp_i (v := 1) (ty := .boolean) (C := RX4) (T := TX4) (N := 12) hx hb hts (tw_i inlX4) tyX4 tyX4_ok nmX4 hown hK hP hD hS hL_this hK_this (by decide +kernel) rfl 9 137 (by decide +kernel) (hts _ (tw_c tw_761)) rfl (tyX4_ok 9 (by decide +kernel)) rfl (by decide +kernel) (Nat.le_of_ble_eq_true rfl) (ps_137 _ _ _ _ _) dX4_readBehindOne_164 (fun I_49 H locs eI_49 hP hD hS => ?_)
              replace hFr := fr_I (f := 137) hFr hO_this (by decide +kernel) eI_49
              replace hF := hF.trans (ap_n (vI_st (f := 137) hO_this (by decide +kernel) eI_49))
              have hG := GX.wI hG 137 rfl eI_49 (rg_w (rg_k (1 : Int32) 1 rfl) (by decide +kernel)) (by decide +kernel)
              have tt_50 : (I_49 132 this).toInt = (I_43 132 this).toInt := by rw [eI_49, pq_uf _ _ _ (by decide +kernel)]
              have tt_51 : (I_49 134 this).toInt = (I_43 134 this).toInt := by rw [eI_49, pq_uf _ _ _ (by decide +kernel)]
              have tt_52 : (I_49 129 this).toInt = (I_43 129 this).toInt := by rw [eI_49, pq_uf _ _ _ (by decide +kernel)]
              have tt_53 : (I_49 197 this_scanner).toInt = (I_43 197 this_scanner).toInt := by rw [eI_49, pq_uf _ _ _ (by decide +kernel)]
              have tt_54 : (I_49 194 this_scanner).toInt = (I_43 194 this_scanner).toInt := by rw [eI_49, pq_uf _ _ _ (by decide +kernel)]
              refine lv_aload_n hx hb dX4_readBehindOne_167 rfl (lv_at hl 1 rfl) ?_
              refine lv_iload_n hx hb dX4_readBehindOne_168 rfl (lv_at hl 0 rfl) ?_
              refine pk_i (va_runS (As := [.int (I 194 this_scanner)]) (rest := [.ref this]) ⟨hx, hb, hml, hown, hts⟩ (s_X4_rank l D t σ I_49 J ri rj rq H.size tg hSH hG.1 (I 194 this_scanner)) (va_cwS 1 hts (tw_S tw_790 tw_791 tw_25 tw_792) rfl rfl rfl cd_yX4_rank_1 ⟨Nat.le_of_ble_eq_true rfl, Nat.le_of_ble_eq_true rfl⟩) ⟨pq_blind, pq_pre hK hN hP hD⟩ rfl rfl hl.1 rfl (lv_room (Nat.le_of_ble_eq_true rfl)) dX4_readBehindOne_169 ⟨Nat.le_of_ble_eq_true rfl, Nat.le_of_ble_eq_true rfl⟩) hD hS hA (fun x_55 σ1 μ1 H locs hw_56 hP hD hS => ?_)
              obtain ⟨hu_57, hfn_60, hr_59⟩ := hw_56
              obtain ⟨hu_57a, hu_57b⟩ := Prod.mk.inj hu_57
              rw [hu_57a, hu_57b] at hP hD
              replace hF := hF.trans (ap_n hfn_60.symm)
              refine pk_v (va_runV (As := [.int x_55]) (rest := []) ⟨hx, hb, hml, hown, hts⟩ (s_X4_settle l D t σ I_49 J ri rj rq H.size tg hSH hG.1 this x_55 hL_this hK_this) (cwV 1 hts (tw_V tw_793 tw_794 tw_795 tw_25 tw_796) rfl rfl rfl cv_yX4_settle_1 ⟨Nat.le_of_ble_eq_true rfl, Nat.le_of_ble_eq_true rfl⟩) ⟨pq_blind, pq_recv hK hP hL_this hK_this (by decide +kernel) rfl, pq_pre hK hN hP hD⟩ rfl rfl hl.1 rfl (lv_room (Nat.le_of_ble_eq_true rfl)) dX4_readBehindOne_172 ⟨Nat.le_of_ble_eq_true rfl, Nat.le_of_ble_eq_true rfl⟩) hD hS hA (fun σ1 μ1 H locs hw_63 hP hD hS => ?_)
              obtain ⟨I_64, ri_65, hu_66, hg_67, hp_69, hp_70, hfn_71, hfr_72⟩ := hw_63
              obtain ⟨hu_66a, hu_66b⟩ := Prod.mk.inj hu_66
              rw [hu_66a, hu_66b] at hP hD
              replace hF := hF.trans (bv_n hfn_71)
              replace hFr := fr_tr hFr hfr_72
              have tt_73 := hp_69
              have tt_74 := hp_70
              have hG := GX.tr hG hg_67 (by decide +kernel)
              have tt_75 : (I_64 129 this).toInt = (I_49 129 this).toInt := by rw [hg_67.2.1 129 (by decide +kernel) (by decide +kernel)]
              have tt_76 : (I_64 197 this_scanner).toInt = (I_49 197 this_scanner).toInt := by rw [hg_67.2.1 197 (by decide +kernel) (by decide +kernel)]
              have tt_77 : (I_64 194 this_scanner).toInt = (I_49 194 this_scanner).toInt := by rw [hg_67.2.1 194 (by decide +kernel) (by decide +kernel)]
              refine lv_aload_n hx hb dX4_readBehindOne_175 rfl (lv_at hl 1 rfl) ?_
              refine lv_iload_n hx hb dX4_readBehindOne_176 rfl (lv_at hl 0 rfl) ?_
              refine pk_v (va_runV (As := [.int (I 194 this_scanner)]) (rest := []) ⟨hx, hb, hml, hown, hts⟩ (s_X4_await l D t σ I_64 J ri_65 rj rq H.size tg hSH hG.1 this (I 194 this_scanner) hL_this hK_this) (cwV 1 hts (tw_V tw_781 tw_782 tw_783 tw_25 tw_784) rfl rfl rfl cv_yX4_await_1 ⟨Nat.le_of_ble_eq_true rfl, Nat.le_of_ble_eq_true rfl⟩) ⟨pq_blind, pq_recv hK hP hL_this hK_this (by decide +kernel) rfl, pq_pre hK hN hP hD⟩ rfl rfl hl.1 rfl (lv_room (Nat.le_of_ble_eq_true rfl)) dX4_readBehindOne_177 ⟨Nat.le_of_ble_eq_true rfl, Nat.le_of_ble_eq_true rfl⟩) hD hS hA (fun σ1 μ1 H locs hw_79 hP hD hS => ?_)
              obtain ⟨I_80, ri_81, hu_82, hg_83, hp_85, hp_86, hfn_87, hfr_88⟩ := hw_79
              obtain ⟨hu_82a, hu_82b⟩ := Prod.mk.inj hu_82
              rw [hu_82a, hu_82b] at hP hD
              replace hF := hF.trans (bv_n hfn_87)
              replace hFr := fr_tr hFr hfr_88
              have tt_89 := hp_85
              have tt_90 := hp_86
              have hG := GX.tr hG hg_83 (by decide +kernel)
              have tt_91 : (I_80 132 this).toInt = (I_64 132 this).toInt := by rw [hg_83.2.1 132 (by decide +kernel) (by decide +kernel)]
              have tt_92 : (I_80 129 this).toInt = (I_64 129 this).toInt := by rw [hg_83.2.1 129 (by decide +kernel) (by decide +kernel)]
              have tt_93 : (I_80 197 this_scanner).toInt = (I_64 197 this_scanner).toInt := by rw [hg_83.2.1 197 (by decide +kernel) (by decide +kernel)]
              have tt_94 : (I_80 194 this_scanner).toInt = (I_64 194 this_scanner).toInt := by rw [hg_83.2.1 194 (by decide +kernel) (by decide +kernel)]
              refine lv_iconst (v := 1) hx hb dX4_readBehindOne_180 (by decide +kernel) ?_
              subst hQ
              exact W.zret (v := 1) hx hb hr (by decide +kernel) (fun t1 ht hW => ⟨⟨1, (σ, I_80, J, ri_81, rj, rq), rfl, ⟨I_80, ri_81, rfl, hG, (by omega), (ft_t (ft_t (fun _ _ => rfl) hp_70) hp_86), (hF0.symm.trans hF), hFr, (Or.inl ⟨rfl, trivial⟩)⟩, by rw [ht]; exact hP, va_K.moved hW.alike hK, hD⟩, hS.F ht⟩) hS.2.2 dX4_readBehindOne_181
            · replace hF := hF.trans (if_neg c_37)
              have tc_95 : (I 194 this_scanner).toInt ≠ 9 := fun q => c_37 (Int32.toInt_inj.mp q)
              refine lv_iload_n hx hb dX4_readBehindOne_151 rfl (lv_at hl 0 rfl) ?_
              refine lv_bipush (v := 10) hx hb dX4_readBehindOne_152 (by decide +kernel) ?_
              refine lv_icmp_ne (tgt := 182) hx hb dX4_readBehindOne_154 (by decide +kernel) (fun c_96 => ?_) (fun c_96 => ?_)
              · replace hF := hF.trans (if_neg c_96)
                have tc_100 : (I 194 this_scanner).toInt ≠ 10 := fun q => c_96 (Int32.toInt_inj.mp q)
                refine lv_aload_n hx hb dX4_readBehindOne_182 rfl (lv_at hl 1 rfl) ?_
                refine pg_f (v := .int (I_2 138 this)) (C := RX4) (T := TX4) (N := 12) hx hb hts (tw_i inlX4) hown hK hP hL_this hK_this (by decide +kernel) rfl 10 (by decide +kernel) (hts _ (tw_c tw_762)) rfl dX4_readBehindOne_183 ?_
                refine lv_if_eq (tgt := 195) hx hb dX4_readBehindOne_186 (by decide +kernel) (fun c_101 => ?_) (fun c_101 => ?_)
                · have tc_104 : (I_2 138 this).toInt = 0 := congrArg Int32.toInt c_101
                  exact (rg_empty (rg_and h_31 (rg_of_eq c_101 (rg_k (0 : Int32) 0 rfl)) (lo := 1) (hi := 0) (by decide +kernel)) (by decide +kernel)).elim
                · have tc_105 : (I_2 138 this).toInt ≠ 0 := fun q => c_101 (Int32.toInt_inj.mp q)
                  refine lv_iload_n hx hb dX4_readBehindOne_189 rfl (lv_at hl 0 rfl) ?_
                  refine lv_bipush (v := 32) hx hb dX4_readBehindOne_190 (by decide +kernel) ?_
                  refine lv_icmp_eq (tgt := 200) hx hb dX4_readBehindOne_192 (by decide +kernel) (fun c_106 => ?_) (fun c_106 => ?_)
                  · have tc_109 : (I 194 this_scanner).toInt = 32 := congrArg Int32.toInt c_106
                    exact (rg_empty (rg_and h_14 (rg_of_eq c_106 (rg_k (32 : Int32) 32 rfl)) (lo := 32) (hi := 24) (by decide +kernel)) (by decide +kernel)).elim
                  · have tc_110 : (I 194 this_scanner).toInt ≠ 32 := fun q => c_106 (Int32.toInt_inj.mp q)
                    refine lv_aload_n hx hb dX4_readBehindOne_195 rfl (lv_at hl 1 rfl) ?_
                    refine lv_iconst (v := 1) hx hb dX4_readBehindOne_196 (by decide +kernel) ?_
                    refine pk_v (va_runV (As := [.int 1]) (rest := []) ⟨hx, hb, hml, hown, hts⟩ (s_X4_refuse l D t σ I_2 J ri rj rq H.size tg hSH hG.1 this (1 : Int32) hL_this hK_this (rg_w (rg_k (1 : Int32) 1 rfl) (by decide +kernel))) (cwV 1 hts (tw_V tw_748 tw_749 tw_750 tw_25 tw_751) rfl rfl rfl cv_yX4_refuse_1 ⟨Nat.le_of_ble_eq_true rfl, Nat.le_of_ble_eq_true rfl⟩) ⟨pq_blind, pq_recv hK hP hL_this hK_this (by decide +kernel) rfl, pq_pre hK hN hP hD⟩ rfl rfl hl.1 rfl (lv_room (Nat.le_of_ble_eq_true rfl)) dX4_readBehindOne_197 ⟨Nat.le_of_ble_eq_true rfl, Nat.le_of_ble_eq_true rfl⟩) hD hS hA (fun σ1 μ1 H locs hw_112 hP hD hS => ?_)
                    obtain ⟨I_113, hu_114, hg_115, hp_117, hfn_118, hfr_119⟩ := hw_112
                    obtain ⟨hu_114a, hu_114b⟩ := Prod.mk.inj hu_114
                    rw [hu_114a, hu_114b] at hP hD
                    replace hF := hF.trans (bv_n hfn_118)
                    replace hFr := fr_tr hFr hfr_119
                    have tt_120 := hp_117
                    have hG := GX.tr hG hg_115 (by decide +kernel)
                    have tt_121 : (I_113 132 this).toInt = (I_2 132 this).toInt := by rw [hg_115.2.1 132 (by decide +kernel) (by decide +kernel)]
                    have tt_122 : (I_113 134 this).toInt = (I_2 134 this).toInt := by rw [hg_115.2.1 134 (by decide +kernel) (by decide +kernel)]
                    have tt_123 : (I_113 197 this_scanner).toInt = (I_2 197 this_scanner).toInt := by rw [hg_115.2.1 197 (by decide +kernel) (by decide +kernel)]
                    have tt_124 : (I_113 194 this_scanner).toInt = (I_2 194 this_scanner).toInt := by rw [hg_115.2.1 194 (by decide +kernel) (by decide +kernel)]
                    refine lv_aload_n hx hb dX4_readBehindOne_200 rfl (lv_at hl 1 rfl) ?_
                    refine lv_iconst (v := 1) hx hb dX4_readBehindOne_201 (by decide +kernel) ?_
                    refine pk_v (va_runV (As := [.int 1]) (rest := []) ⟨hx, hb, hml, hown, hts⟩ (s_X4_settle l D t σ I_113 J ri rj rq H.size tg hSH hG.1 this (1 : Int32) hL_this hK_this) (cwV 1 hts (tw_V tw_793 tw_794 tw_795 tw_25 tw_796) rfl rfl rfl cv_yX4_settle_1 ⟨Nat.le_of_ble_eq_true rfl, Nat.le_of_ble_eq_true rfl⟩) ⟨pq_blind, pq_recv hK hP hL_this hK_this (by decide +kernel) rfl, pq_pre hK hN hP hD⟩ rfl rfl hl.1 rfl (lv_room (Nat.le_of_ble_eq_true rfl)) dX4_readBehindOne_202 ⟨Nat.le_of_ble_eq_true rfl, Nat.le_of_ble_eq_true rfl⟩) hD hS hA (fun σ1 μ1 H locs hw_126 hP hD hS => ?_)
                    obtain ⟨I_127, ri_128, hu_129, hg_130, hp_132, hp_133, hfn_134, hfr_135⟩ := hw_126
                    obtain ⟨hu_129a, hu_129b⟩ := Prod.mk.inj hu_129
                    rw [hu_129a, hu_129b] at hP hD
                    replace hF := hF.trans (bv_n hfn_134)
                    replace hFr := fr_tr hFr hfr_135
                    have tt_136 := hp_132
                    have tt_137 := hp_133
                    have hG := GX.tr hG hg_130 (by decide +kernel)
                    have tt_138 : (I_127 129 this).toInt = (I_113 129 this).toInt := by rw [hg_130.2.1 129 (by decide +kernel) (by decide +kernel)]
                    have tt_139 : (I_127 197 this_scanner).toInt = (I_113 197 this_scanner).toInt := by rw [hg_130.2.1 197 (by decide +kernel) (by decide +kernel)]
                    have tt_140 : (I_127 194 this_scanner).toInt = (I_113 194 this_scanner).toInt := by rw [hg_130.2.1 194 (by decide +kernel) (by decide +kernel)]
                    refine lv_aload_n hx hb dX4_readBehindOne_205 rfl (lv_at hl 1 rfl) ?_
                    refine lv_iconst (v := 1) hx hb dX4_readBehindOne_206 (by decide +kernel) ?_
                    refine pp_i (v := 1) (ty := .boolean) (C := RX4) (T := TX4) (N := 12) hx hb hts (tw_i inlX4) tyX4 tyX4_ok nmX4 hown hK hP hD hS hL_this hK_this (by decide +kernel) rfl 11 139 (by decide +kernel) (hts _ (tw_c tw_763)) rfl (tyX4_ok 11 (by decide +kernel)) rfl (by decide +kernel) (Nat.le_of_ble_eq_true rfl) (ps_139 _ _ _ _ _) dX4_readBehindOne_207 (fun I_141 H locs eI_141 hP hD hS => ?_)
                    replace hFr := fr_I (f := 139) hFr hO_this (by decide +kernel) eI_141
                    replace hF := hF.trans (ap_n (vI_st (f := 139) hO_this (by decide +kernel) eI_141))
                    have hG := GX.wI hG 139 rfl eI_141 (rg_w (rg_k (1 : Int32) 1 rfl) (by decide +kernel)) (by decide +kernel)
                    have tt_142 : (I_141 132 this).toInt = (I_127 132 this).toInt := by rw [eI_141, pq_uf _ _ _ (by decide +kernel)]
                    have tt_143 : (I_141 134 this).toInt = (I_127 134 this).toInt := by rw [eI_141, pq_uf _ _ _ (by decide +kernel)]
                    have tt_144 : (I_141 129 this).toInt = (I_127 129 this).toInt := by rw [eI_141, pq_uf _ _ _ (by decide +kernel)]
                    have tt_145 : (I_141 197 this_scanner).toInt = (I_127 197 this_scanner).toInt := by rw [eI_141, pq_uf _ _ _ (by decide +kernel)]
                    have tt_146 : (I_141 194 this_scanner).toInt = (I_127 194 this_scanner).toInt := by rw [eI_141, pq_uf _ _ _ (by decide +kernel)]
                    refine lv_iconst (v := 0) hx hb dX4_readBehindOne_210 (by decide +kernel) ?_
                    subst hQ
                    exact W.zret (v := 0) hx hb hr (by decide +kernel) (fun t1 ht hW => ⟨⟨0, (σ, I_141, J, ri_128, rj, rq), rfl, ⟨I_141, ri_128, rfl, hG, (by omega), (ft_t (fun _ _ => rfl) hp_133), (hF0.symm.trans hF), hFr, (Or.inr ⟨rfl, trivial⟩)⟩, by rw [ht]; exact hP, va_K.moved hW.alike hK, hD⟩, hS.F ht⟩) hS.2.2 dX4_readBehindOne_211
              · replace hF := hF.trans (if_pos c_96)
                have tc_147 : (I 194 this_scanner).toInt = 10 := congrArg Int32.toInt c_96
                have h_148 : rg (I 194 this_scanner) 10 10 := rg_and h_14 (rg_of_eq c_96 (rg_k (10 : Int32) 10 rfl)) (by decide +kernel)
                have uh_148 := h_148.1
                have vh_148 := h_148.2
                refine lv_aload_n hx hb dX4_readBehindOne_157 rfl (lv_at hl 1 rfl) ?_
                refine lv_iconst (v := 0) hx hb dX4_readBehindOne_158 (by decide +kernel) ?_
                refine pp_i (v := 0) (ty := .boolean) (C := RX4) (T := TX4) (N := 12) hx hb hts (tw_i inlX4) tyX4 tyX4_ok nmX4 hown hK hP hD hS hL_this hK_this (by decide +kernel) rfl 10 138 (by decide +kernel) (hts _ (tw_c tw_762)) rfl (tyX4_ok 10 (by decide +kernel)) rfl (by decide +kernel) (Nat.le_of_ble_eq_true rfl) (ps_138 _ _ _ _ _) dX4_readBehindOne_159 (fun I_149 H locs eI_149 hP hD hS => ?_)
                replace hFr := fr_I (f := 138) hFr hO_this (by decide +kernel) eI_149
                replace hF := hF.trans (ap_n (vI_st (f := 138) hO_this (by decide +kernel) eI_149))
                have hG := GX.wI hG 138 rfl eI_149 (rg_w (rg_k (0 : Int32) 0 rfl) (by decide +kernel)) (by decide +kernel)
                have tt_150 : (I_149 132 this).toInt = (I_2 132 this).toInt := by rw [eI_149, pq_uf _ _ _ (by decide +kernel)]
                have tt_151 : (I_149 134 this).toInt = (I_2 134 this).toInt := by rw [eI_149, pq_uf _ _ _ (by decide +kernel)]
                have tt_152 : (I_149 129 this).toInt = (I_2 129 this).toInt := by rw [eI_149, pq_uf _ _ _ (by decide +kernel)]
                have tt_153 : (I_149 197 this_scanner).toInt = (I_2 197 this_scanner).toInt := by rw [eI_149, pq_uf _ _ _ (by decide +kernel)]
                have tt_154 : (I_149 194 this_scanner).toInt = (I_2 194 this_scanner).toInt := by rw [eI_149, pq_uf _ _ _ (by decide +kernel)]
                refine lv_aload_n hx hb dX4_readBehindOne_162 rfl (lv_at hl 1 rfl) ?_
                refine lv_iconst (v := 1) hx hb dX4_readBehindOne_163 (by decide +kernel) ?_
                refine pp_i (v := 1) (ty := .boolean) (C := RX4) (T := TX4) (N := 12) hx hb hts (tw_i inlX4) tyX4 tyX4_ok nmX4 hown hK hP hD hS hL_this hK_this (by decide +kernel) rfl 9 137 (by decide +kernel) (hts _ (tw_c tw_761)) rfl (tyX4_ok 9 (by decide +kernel)) rfl (by decide +kernel) (Nat.le_of_ble_eq_true rfl) (ps_137 _ _ _ _ _) dX4_readBehindOne_164 (fun I_155 H locs eI_155 hP hD hS => ?_)
                replace hFr := fr_I (f := 137) hFr hO_this (by decide +kernel) eI_155
                replace hF := hF.trans (ap_n (vI_st (f := 137) hO_this (by decide +kernel) eI_155))
                have hG := GX.wI hG 137 rfl eI_155 (rg_w (rg_k (1 : Int32) 1 rfl) (by decide +kernel)) (by decide +kernel)
                have tt_156 : (I_155 132 this).toInt = (I_149 132 this).toInt := by rw [eI_155, pq_uf _ _ _ (by decide +kernel)]
                have tt_157 : (I_155 134 this).toInt = (I_149 134 this).toInt := by rw [eI_155, pq_uf _ _ _ (by decide +kernel)]
                have tt_158 : (I_155 129 this).toInt = (I_149 129 this).toInt := by rw [eI_155, pq_uf _ _ _ (by decide +kernel)]
                have tt_159 : (I_155 197 this_scanner).toInt = (I_149 197 this_scanner).toInt := by rw [eI_155, pq_uf _ _ _ (by decide +kernel)]
                have tt_160 : (I_155 194 this_scanner).toInt = (I_149 194 this_scanner).toInt := by rw [eI_155, pq_uf _ _ _ (by decide +kernel)]
                refine lv_aload_n hx hb dX4_readBehindOne_167 rfl (lv_at hl 1 rfl) ?_
                refine lv_iload_n hx hb dX4_readBehindOne_168 rfl (lv_at hl 0 rfl) ?_
                refine pk_i (va_runS (As := [.int (I 194 this_scanner)]) (rest := [.ref this]) ⟨hx, hb, hml, hown, hts⟩ (s_X4_rank l D t σ I_155 J ri rj rq H.size tg hSH hG.1 (I 194 this_scanner)) (va_cwS 1 hts (tw_S tw_790 tw_791 tw_25 tw_792) rfl rfl rfl cd_yX4_rank_1 ⟨Nat.le_of_ble_eq_true rfl, Nat.le_of_ble_eq_true rfl⟩) ⟨pq_blind, pq_pre hK hN hP hD⟩ rfl rfl hl.1 rfl (lv_room (Nat.le_of_ble_eq_true rfl)) dX4_readBehindOne_169 ⟨Nat.le_of_ble_eq_true rfl, Nat.le_of_ble_eq_true rfl⟩) hD hS hA (fun x_161 σ1 μ1 H locs hw_162 hP hD hS => ?_)
                obtain ⟨hu_163, hfn_166, hr_165⟩ := hw_162
                obtain ⟨hu_163a, hu_163b⟩ := Prod.mk.inj hu_163
                rw [hu_163a, hu_163b] at hP hD
                replace hF := hF.trans (ap_n hfn_166.symm)
                refine pk_v (va_runV (As := [.int x_161]) (rest := []) ⟨hx, hb, hml, hown, hts⟩ (s_X4_settle l D t σ I_155 J ri rj rq H.size tg hSH hG.1 this x_161 hL_this hK_this) (cwV 1 hts (tw_V tw_793 tw_794 tw_795 tw_25 tw_796) rfl rfl rfl cv_yX4_settle_1 ⟨Nat.le_of_ble_eq_true rfl, Nat.le_of_ble_eq_true rfl⟩) ⟨pq_blind, pq_recv hK hP hL_this hK_this (by decide +kernel) rfl, pq_pre hK hN hP hD⟩ rfl rfl hl.1 rfl (lv_room (Nat.le_of_ble_eq_true rfl)) dX4_readBehindOne_172 ⟨Nat.le_of_ble_eq_true rfl, Nat.le_of_ble_eq_true rfl⟩) hD hS hA (fun σ1 μ1 H locs hw_169 hP hD hS => ?_)
                obtain ⟨I_170, ri_171, hu_172, hg_173, hp_175, hp_176, hfn_177, hfr_178⟩ := hw_169
                obtain ⟨hu_172a, hu_172b⟩ := Prod.mk.inj hu_172
                rw [hu_172a, hu_172b] at hP hD
                replace hF := hF.trans (bv_n hfn_177)
                replace hFr := fr_tr hFr hfr_178
                have tt_179 := hp_175
                have tt_180 := hp_176
                have hG := GX.tr hG hg_173 (by decide +kernel)
                have tt_181 : (I_170 129 this).toInt = (I_155 129 this).toInt := by rw [hg_173.2.1 129 (by decide +kernel) (by decide +kernel)]
                have tt_182 : (I_170 197 this_scanner).toInt = (I_155 197 this_scanner).toInt := by rw [hg_173.2.1 197 (by decide +kernel) (by decide +kernel)]
                have tt_183 : (I_170 194 this_scanner).toInt = (I_155 194 this_scanner).toInt := by rw [hg_173.2.1 194 (by decide +kernel) (by decide +kernel)]
                refine lv_aload_n hx hb dX4_readBehindOne_175 rfl (lv_at hl 1 rfl) ?_
                refine lv_iload_n hx hb dX4_readBehindOne_176 rfl (lv_at hl 0 rfl) ?_
                refine pk_v (va_runV (As := [.int (I 194 this_scanner)]) (rest := []) ⟨hx, hb, hml, hown, hts⟩ (s_X4_await l D t σ I_170 J ri_171 rj rq H.size tg hSH hG.1 this (I 194 this_scanner) hL_this hK_this) (cwV 1 hts (tw_V tw_781 tw_782 tw_783 tw_25 tw_784) rfl rfl rfl cv_yX4_await_1 ⟨Nat.le_of_ble_eq_true rfl, Nat.le_of_ble_eq_true rfl⟩) ⟨pq_blind, pq_recv hK hP hL_this hK_this (by decide +kernel) rfl, pq_pre hK hN hP hD⟩ rfl rfl hl.1 rfl (lv_room (Nat.le_of_ble_eq_true rfl)) dX4_readBehindOne_177 ⟨Nat.le_of_ble_eq_true rfl, Nat.le_of_ble_eq_true rfl⟩) hD hS hA (fun σ1 μ1 H locs hw_185 hP hD hS => ?_)
                obtain ⟨I_186, ri_187, hu_188, hg_189, hp_191, hp_192, hfn_193, hfr_194⟩ := hw_185
                obtain ⟨hu_188a, hu_188b⟩ := Prod.mk.inj hu_188
                rw [hu_188a, hu_188b] at hP hD
                replace hF := hF.trans (bv_n hfn_193)
                replace hFr := fr_tr hFr hfr_194
                have tt_195 := hp_191
                have tt_196 := hp_192
                have hG := GX.tr hG hg_189 (by decide +kernel)
                have tt_197 : (I_186 132 this).toInt = (I_170 132 this).toInt := by rw [hg_189.2.1 132 (by decide +kernel) (by decide +kernel)]
                have tt_198 : (I_186 129 this).toInt = (I_170 129 this).toInt := by rw [hg_189.2.1 129 (by decide +kernel) (by decide +kernel)]
                have tt_199 : (I_186 197 this_scanner).toInt = (I_170 197 this_scanner).toInt := by rw [hg_189.2.1 197 (by decide +kernel) (by decide +kernel)]
                have tt_200 : (I_186 194 this_scanner).toInt = (I_170 194 this_scanner).toInt := by rw [hg_189.2.1 194 (by decide +kernel) (by decide +kernel)]
                refine lv_iconst (v := 1) hx hb dX4_readBehindOne_180 (by decide +kernel) ?_
                subst hQ
                exact W.zret (v := 1) hx hb hr (by decide +kernel) (fun t1 ht hW => ⟨⟨1, (σ, I_186, J, ri_187, rj, rq), rfl, ⟨I_186, ri_187, rfl, hG, (by omega), (ft_t (ft_t (fun _ _ => rfl) hp_176) hp_192), (hF0.symm.trans hF), hFr, (Or.inl ⟨rfl, trivial⟩)⟩, by rw [ht]; exact hP, va_K.moved hW.alike hK, hD⟩, hS.F ht⟩) hS.2.2 dX4_readBehindOne_181
        · replace hF := hF.trans (if_pos c_25)
          have tc_201 : (I_2 138 this).toInt = 0 := congrArg Int32.toInt c_25
          have h_202 : rg (I_2 138 this) 0 0 := rg_and h_23 (rg_of_eq c_25 (rg_k (0 : Int32) 0 rfl)) (by decide +kernel)
          have uh_202 := h_202.1
          have vh_202 := h_202.2
          refine lv_iload_n hx hb dX4_readBehindOne_106 rfl (lv_at hl 0 rfl) ?_
          refine lv_bipush (v := 19) hx hb dX4_readBehindOne_107 (by decide +kernel) ?_
          refine lv_icmp_lt (tgt := 138) hx hb dX4_readBehindOne_109 (by decide +kernel) (fun c_203 => ?_) (fun c_203 => ?_)
          · replace hF := hF.trans (if_pos c_203)
            have tc_208 : (I 194 this_scanner).toInt < 19 := Int32.lt_iff_toInt_lt.mp c_203
            have h_209 : rg (I 194 this_scanner) (-2147483648) 18 := rg_lt1 c_203 h_14 (rg_k (19 : Int32) 19 rfl) (by decide +kernel)
            have uh_209 := h_209.1
            have vh_209 := h_209.2
            refine lv_aload_n hx hb dX4_readBehindOne_138 rfl (lv_at hl 1 rfl) ?_
            refine pg_f (v := .int (I_2 138 this)) (C := RX4) (T := TX4) (N := 12) hx hb hts (tw_i inlX4) hown hK hP hL_this hK_this (by decide +kernel) rfl 10 (by decide +kernel) (hts _ (tw_c tw_762)) rfl dX4_readBehindOne_139 ?_
            refine lv_if_eq (tgt := 182) hx hb dX4_readBehindOne_142 (by decide +kernel) (fun c_210 => ?_) (fun c_210 => ?_)
            · have tc_213 : (I_2 138 this).toInt = 0 := congrArg Int32.toInt c_210
              refine lv_aload_n hx hb dX4_readBehindOne_182 rfl (lv_at hl 1 rfl) ?_
              refine pg_f (v := .int (I_2 138 this)) (C := RX4) (T := TX4) (N := 12) hx hb hts (tw_i inlX4) hown hK hP hL_this hK_this (by decide +kernel) rfl 10 (by decide +kernel) (hts _ (tw_c tw_762)) rfl dX4_readBehindOne_183 ?_
              refine lv_if_eq (tgt := 195) hx hb dX4_readBehindOne_186 (by decide +kernel) (fun c_214 => ?_) (fun c_214 => ?_)
              · have tc_217 : (I_2 138 this).toInt = 0 := congrArg Int32.toInt c_214
                refine lv_aload_n hx hb dX4_readBehindOne_195 rfl (lv_at hl 1 rfl) ?_
                refine lv_iconst (v := 1) hx hb dX4_readBehindOne_196 (by decide +kernel) ?_
                refine pk_v (va_runV (As := [.int 1]) (rest := []) ⟨hx, hb, hml, hown, hts⟩ (s_X4_refuse l D t σ I_2 J ri rj rq H.size tg hSH hG.1 this (1 : Int32) hL_this hK_this (rg_w (rg_k (1 : Int32) 1 rfl) (by decide +kernel))) (cwV 1 hts (tw_V tw_748 tw_749 tw_750 tw_25 tw_751) rfl rfl rfl cv_yX4_refuse_1 ⟨Nat.le_of_ble_eq_true rfl, Nat.le_of_ble_eq_true rfl⟩) ⟨pq_blind, pq_recv hK hP hL_this hK_this (by decide +kernel) rfl, pq_pre hK hN hP hD⟩ rfl rfl hl.1 rfl (lv_room (Nat.le_of_ble_eq_true rfl)) dX4_readBehindOne_197 ⟨Nat.le_of_ble_eq_true rfl, Nat.le_of_ble_eq_true rfl⟩) hD hS hA (fun σ1 μ1 H locs hw_219 hP hD hS => ?_)
                obtain ⟨I_220, hu_221, hg_222, hp_224, hfn_225, hfr_226⟩ := hw_219
                obtain ⟨hu_221a, hu_221b⟩ := Prod.mk.inj hu_221
                rw [hu_221a, hu_221b] at hP hD
                replace hF := hF.trans (bv_n hfn_225)
                replace hFr := fr_tr hFr hfr_226
                have tt_227 := hp_224
                have hG := GX.tr hG hg_222 (by decide +kernel)
                have tt_228 : (I_220 132 this).toInt = (I_2 132 this).toInt := by rw [hg_222.2.1 132 (by decide +kernel) (by decide +kernel)]
                have tt_229 : (I_220 134 this).toInt = (I_2 134 this).toInt := by rw [hg_222.2.1 134 (by decide +kernel) (by decide +kernel)]
                have tt_230 : (I_220 197 this_scanner).toInt = (I_2 197 this_scanner).toInt := by rw [hg_222.2.1 197 (by decide +kernel) (by decide +kernel)]
                have tt_231 : (I_220 194 this_scanner).toInt = (I_2 194 this_scanner).toInt := by rw [hg_222.2.1 194 (by decide +kernel) (by decide +kernel)]
                refine lv_aload_n hx hb dX4_readBehindOne_200 rfl (lv_at hl 1 rfl) ?_
                refine lv_iconst (v := 1) hx hb dX4_readBehindOne_201 (by decide +kernel) ?_
                refine pk_v (va_runV (As := [.int 1]) (rest := []) ⟨hx, hb, hml, hown, hts⟩ (s_X4_settle l D t σ I_220 J ri rj rq H.size tg hSH hG.1 this (1 : Int32) hL_this hK_this) (cwV 1 hts (tw_V tw_793 tw_794 tw_795 tw_25 tw_796) rfl rfl rfl cv_yX4_settle_1 ⟨Nat.le_of_ble_eq_true rfl, Nat.le_of_ble_eq_true rfl⟩) ⟨pq_blind, pq_recv hK hP hL_this hK_this (by decide +kernel) rfl, pq_pre hK hN hP hD⟩ rfl rfl hl.1 rfl (lv_room (Nat.le_of_ble_eq_true rfl)) dX4_readBehindOne_202 ⟨Nat.le_of_ble_eq_true rfl, Nat.le_of_ble_eq_true rfl⟩) hD hS hA (fun σ1 μ1 H locs hw_233 hP hD hS => ?_)
                obtain ⟨I_234, ri_235, hu_236, hg_237, hp_239, hp_240, hfn_241, hfr_242⟩ := hw_233
                obtain ⟨hu_236a, hu_236b⟩ := Prod.mk.inj hu_236
                rw [hu_236a, hu_236b] at hP hD
                replace hF := hF.trans (bv_n hfn_241)
                replace hFr := fr_tr hFr hfr_242
                have tt_243 := hp_239
                have tt_244 := hp_240
                have hG := GX.tr hG hg_237 (by decide +kernel)
                have tt_245 : (I_234 129 this).toInt = (I_220 129 this).toInt := by rw [hg_237.2.1 129 (by decide +kernel) (by decide +kernel)]
                have tt_246 : (I_234 197 this_scanner).toInt = (I_220 197 this_scanner).toInt := by rw [hg_237.2.1 197 (by decide +kernel) (by decide +kernel)]
                have tt_247 : (I_234 194 this_scanner).toInt = (I_220 194 this_scanner).toInt := by rw [hg_237.2.1 194 (by decide +kernel) (by decide +kernel)]
                refine lv_aload_n hx hb dX4_readBehindOne_205 rfl (lv_at hl 1 rfl) ?_
                refine lv_iconst (v := 1) hx hb dX4_readBehindOne_206 (by decide +kernel) ?_
                refine pp_i (v := 1) (ty := .boolean) (C := RX4) (T := TX4) (N := 12) hx hb hts (tw_i inlX4) tyX4 tyX4_ok nmX4 hown hK hP hD hS hL_this hK_this (by decide +kernel) rfl 11 139 (by decide +kernel) (hts _ (tw_c tw_763)) rfl (tyX4_ok 11 (by decide +kernel)) rfl (by decide +kernel) (Nat.le_of_ble_eq_true rfl) (ps_139 _ _ _ _ _) dX4_readBehindOne_207 (fun I_248 H locs eI_248 hP hD hS => ?_)
                replace hFr := fr_I (f := 139) hFr hO_this (by decide +kernel) eI_248
                replace hF := hF.trans (ap_n (vI_st (f := 139) hO_this (by decide +kernel) eI_248))
                have hG := GX.wI hG 139 rfl eI_248 (rg_w (rg_k (1 : Int32) 1 rfl) (by decide +kernel)) (by decide +kernel)
                have tt_249 : (I_248 132 this).toInt = (I_234 132 this).toInt := by rw [eI_248, pq_uf _ _ _ (by decide +kernel)]
                have tt_250 : (I_248 134 this).toInt = (I_234 134 this).toInt := by rw [eI_248, pq_uf _ _ _ (by decide +kernel)]
                have tt_251 : (I_248 129 this).toInt = (I_234 129 this).toInt := by rw [eI_248, pq_uf _ _ _ (by decide +kernel)]
                have tt_252 : (I_248 197 this_scanner).toInt = (I_234 197 this_scanner).toInt := by rw [eI_248, pq_uf _ _ _ (by decide +kernel)]
                have tt_253 : (I_248 194 this_scanner).toInt = (I_234 194 this_scanner).toInt := by rw [eI_248, pq_uf _ _ _ (by decide +kernel)]
                refine lv_iconst (v := 0) hx hb dX4_readBehindOne_210 (by decide +kernel) ?_
                subst hQ
                exact W.zret (v := 0) hx hb hr (by decide +kernel) (fun t1 ht hW => ⟨⟨0, (σ, I_248, J, ri_235, rj, rq), rfl, ⟨I_248, ri_235, rfl, hG, (by omega), (ft_t (fun _ _ => rfl) hp_240), (hF0.symm.trans hF), hFr, (Or.inr ⟨rfl, trivial⟩)⟩, by rw [ht]; exact hP, va_K.moved hW.alike hK, hD⟩, hS.F ht⟩) hS.2.2 dX4_readBehindOne_211
              · have tc_254 : (I_2 138 this).toInt ≠ 0 := fun q => c_214 (Int32.toInt_inj.mp q)
                exact (rg_empty (rg_ne c_214 h_202 0 rfl (lo := 1) (hi := (-1)) (by decide +kernel)) (by decide +kernel)).elim
            · have tc_255 : (I_2 138 this).toInt ≠ 0 := fun q => c_210 (Int32.toInt_inj.mp q)
              exact (rg_empty (rg_ne c_210 h_202 0 rfl (lo := 1) (hi := (-1)) (by decide +kernel)) (by decide +kernel)).elim
          · replace hF := hF.trans (if_neg c_203)
            have tc_256 : 19 ≤ (I 194 this_scanner).toInt := Int32.le_iff_toInt_le.mp (nlt c_203)
            have h_257 : rg (I 194 this_scanner) 19 24 := rg_le2 (nlt c_203) (rg_k (19 : Int32) 19 rfl) h_14 (by decide +kernel)
            have uh_257 := h_257.1
            have vh_257 := h_257.2
            refine lv_iload_n hx hb dX4_readBehindOne_112 rfl (lv_at hl 0 rfl) ?_
            refine lv_bipush (v := 24) hx hb dX4_readBehindOne_113 (by decide +kernel) ?_
            refine lv_icmp_gt (tgt := 138) hx hb dX4_readBehindOne_115 (by decide +kernel) (fun c_258 => ?_) (fun c_258 => ?_)
            · have tc_261 : 24 < (I 194 this_scanner).toInt := Int32.lt_iff_toInt_lt.mp c_258
              exact (rg_empty (rg_lt2 c_258 (rg_k (24 : Int32) 24 rfl) h_257 (lo := 25) (hi := 24) (by decide +kernel)) (by decide +kernel)).elim
            · have tc_262 : (I 194 this_scanner).toInt ≤ 24 := Int32.le_iff_toInt_le.mp (nlt c_258)
              refine lv_aload_n hx hb dX4_readBehindOne_118 rfl (lv_at hl 1 rfl) ?_
              refine lv_iconst (v := 1) hx hb dX4_readBehindOne_119 (by decide +kernel) ?_
              refine pp_i (v := 1) (ty := .boolean) (C := RX4) (T := TX4) (N := 12) hx hb hts (tw_i inlX4) tyX4 tyX4_ok nmX4 hown hK hP hD hS hL_this hK_this (by decide +kernel) rfl 10 138 (by decide +kernel) (hts _ (tw_c tw_762)) rfl (tyX4_ok 10 (by decide +kernel)) rfl (by decide +kernel) (Nat.le_of_ble_eq_true rfl) (ps_138 _ _ _ _ _) dX4_readBehindOne_120 (fun I_263 H locs eI_263 hP hD hS => ?_)
              replace hFr := fr_I (f := 138) hFr hO_this (by decide +kernel) eI_263
              replace hF := hF.trans (ap_n (vI_st (f := 138) hO_this (by decide +kernel) eI_263))
              have hG := GX.wI hG 138 rfl eI_263 (rg_w (rg_k (1 : Int32) 1 rfl) (by decide +kernel)) (by decide +kernel)
              have tt_264 : (I_263 132 this).toInt = (I_2 132 this).toInt := by rw [eI_263, pq_uf _ _ _ (by decide +kernel)]
              have tt_265 : (I_263 134 this).toInt = (I_2 134 this).toInt := by rw [eI_263, pq_uf _ _ _ (by decide +kernel)]
              have tt_266 : (I_263 129 this).toInt = (I_2 129 this).toInt := by rw [eI_263, pq_uf _ _ _ (by decide +kernel)]
              have tt_267 : (I_263 197 this_scanner).toInt = (I_2 197 this_scanner).toInt := by rw [eI_263, pq_uf _ _ _ (by decide +kernel)]
              have tt_268 : (I_263 194 this_scanner).toInt = (I_2 194 this_scanner).toInt := by rw [eI_263, pq_uf _ _ _ (by decide +kernel)]
              refine lv_aload_n hx hb dX4_readBehindOne_123 rfl (lv_at hl 1 rfl) ?_
              refine lv_iload_n hx hb dX4_readBehindOne_124 rfl (lv_at hl 0 rfl) ?_
              refine pk_i (va_runS (As := [.int (I 194 this_scanner)]) (rest := [.ref this]) ⟨hx, hb, hml, hown, hts⟩ (s_X4_rank l D t σ I_263 J ri rj rq H.size tg hSH hG.1 (I 194 this_scanner)) (va_cwS 1 hts (tw_S tw_790 tw_791 tw_25 tw_792) rfl rfl rfl cd_yX4_rank_1 ⟨Nat.le_of_ble_eq_true rfl, Nat.le_of_ble_eq_true rfl⟩) ⟨pq_blind, pq_pre hK hN hP hD⟩ rfl rfl hl.1 rfl (lv_room (Nat.le_of_ble_eq_true rfl)) dX4_readBehindOne_125 ⟨Nat.le_of_ble_eq_true rfl, Nat.le_of_ble_eq_true rfl⟩) hD hS hA (fun x_269 σ1 μ1 H locs hw_270 hP hD hS => ?_)
              obtain ⟨hu_271, hfn_274, hr_273⟩ := hw_270
              obtain ⟨hu_271a, hu_271b⟩ := Prod.mk.inj hu_271
              rw [hu_271a, hu_271b] at hP hD
              replace hF := hF.trans (ap_n hfn_274.symm)
              refine pk_v (va_runV (As := [.int x_269]) (rest := []) ⟨hx, hb, hml, hown, hts⟩ (s_X4_settle l D t σ I_263 J ri rj rq H.size tg hSH hG.1 this x_269 hL_this hK_this) (cwV 1 hts (tw_V tw_793 tw_794 tw_795 tw_25 tw_796) rfl rfl rfl cv_yX4_settle_1 ⟨Nat.le_of_ble_eq_true rfl, Nat.le_of_ble_eq_true rfl⟩) ⟨pq_blind, pq_recv hK hP hL_this hK_this (by decide +kernel) rfl, pq_pre hK hN hP hD⟩ rfl rfl hl.1 rfl (lv_room (Nat.le_of_ble_eq_true rfl)) dX4_readBehindOne_128 ⟨Nat.le_of_ble_eq_true rfl, Nat.le_of_ble_eq_true rfl⟩) hD hS hA (fun σ1 μ1 H locs hw_277 hP hD hS => ?_)
              obtain ⟨I_278, ri_279, hu_280, hg_281, hp_283, hp_284, hfn_285, hfr_286⟩ := hw_277
              obtain ⟨hu_280a, hu_280b⟩ := Prod.mk.inj hu_280
              rw [hu_280a, hu_280b] at hP hD
              replace hF := hF.trans (bv_n hfn_285)
              replace hFr := fr_tr hFr hfr_286
              have tt_287 := hp_283
              have tt_288 := hp_284
              have hG := GX.tr hG hg_281 (by decide +kernel)
              have tt_289 : (I_278 129 this).toInt = (I_263 129 this).toInt := by rw [hg_281.2.1 129 (by decide +kernel) (by decide +kernel)]
              have tt_290 : (I_278 197 this_scanner).toInt = (I_263 197 this_scanner).toInt := by rw [hg_281.2.1 197 (by decide +kernel) (by decide +kernel)]
              have tt_291 : (I_278 194 this_scanner).toInt = (I_263 194 this_scanner).toInt := by rw [hg_281.2.1 194 (by decide +kernel) (by decide +kernel)]
              refine lv_aload_n hx hb dX4_readBehindOne_131 rfl (lv_at hl 1 rfl) ?_
              refine lv_iload_n hx hb dX4_readBehindOne_132 rfl (lv_at hl 0 rfl) ?_
              refine pk_v (va_runV (As := [.int (I 194 this_scanner)]) (rest := []) ⟨hx, hb, hml, hown, hts⟩ (s_X4_await l D t σ I_278 J ri_279 rj rq H.size tg hSH hG.1 this (I 194 this_scanner) hL_this hK_this) (cwV 1 hts (tw_V tw_781 tw_782 tw_783 tw_25 tw_784) rfl rfl rfl cv_yX4_await_1 ⟨Nat.le_of_ble_eq_true rfl, Nat.le_of_ble_eq_true rfl⟩) ⟨pq_blind, pq_recv hK hP hL_this hK_this (by decide +kernel) rfl, pq_pre hK hN hP hD⟩ rfl rfl hl.1 rfl (lv_room (Nat.le_of_ble_eq_true rfl)) dX4_readBehindOne_133 ⟨Nat.le_of_ble_eq_true rfl, Nat.le_of_ble_eq_true rfl⟩) hD hS hA (fun σ1 μ1 H locs hw_293 hP hD hS => ?_)
              obtain ⟨I_294, ri_295, hu_296, hg_297, hp_299, hp_300, hfn_301, hfr_302⟩ := hw_293
              obtain ⟨hu_296a, hu_296b⟩ := Prod.mk.inj hu_296
              rw [hu_296a, hu_296b] at hP hD
              replace hF := hF.trans (bv_n hfn_301)
              replace hFr := fr_tr hFr hfr_302
              have tt_303 := hp_299
              have tt_304 := hp_300
              have hG := GX.tr hG hg_297 (by decide +kernel)
              have tt_305 : (I_294 132 this).toInt = (I_278 132 this).toInt := by rw [hg_297.2.1 132 (by decide +kernel) (by decide +kernel)]
              have tt_306 : (I_294 129 this).toInt = (I_278 129 this).toInt := by rw [hg_297.2.1 129 (by decide +kernel) (by decide +kernel)]
              have tt_307 : (I_294 197 this_scanner).toInt = (I_278 197 this_scanner).toInt := by rw [hg_297.2.1 197 (by decide +kernel) (by decide +kernel)]
              have tt_308 : (I_294 194 this_scanner).toInt = (I_278 194 this_scanner).toInt := by rw [hg_297.2.1 194 (by decide +kernel) (by decide +kernel)]
              refine lv_iconst (v := 1) hx hb dX4_readBehindOne_136 (by decide +kernel) ?_
              subst hQ
              exact W.zret (v := 1) hx hb hr (by decide +kernel) (fun t1 ht hW => ⟨⟨1, (σ, I_294, J, ri_295, rj, rq), rfl, ⟨I_294, ri_295, rfl, hG, (by omega), (ft_t (ft_t (fun _ _ => rfl) hp_284) hp_300), (hF0.symm.trans hF), hFr, (Or.inl ⟨rfl, trivial⟩)⟩, by rw [ht]; exact hP, va_K.moved hW.alike hK, hD⟩, hS.F ht⟩) hS.2.2 dX4_readBehindOne_137
      · replace hF := hF.trans (if_neg c_16)
        have tc_309 : 0 < (I_2 136 this).toInt := Int32.lt_iff_toInt_lt.mp (nle c_16)
        have h_310 : rg (I_2 136 this) 1 2147483647 := rg_lt2 (nle c_16) (rg_k (0 : Int32) 0 rfl) (rg_full _) (by decide +kernel)
        have uh_310 := h_310.1
        have vh_310 := h_310.2
        refine lv_iload_n hx hb dX4_readBehindOne_47 rfl (lv_at hl 0 rfl) ?_
        refine lv_bipush (v := 30) hx hb dX4_readBehindOne_48 (by decide +kernel) ?_
        refine lv_icmp_eq (tgt := 58) hx hb dX4_readBehindOne_50 (by decide +kernel) (fun c_311 => ?_) (fun c_311 => ?_)
        · have tc_314 : (I 194 this_scanner).toInt = 30 := congrArg Int32.toInt c_311
          exact (rg_empty (rg_and h_14 (rg_of_eq c_311 (rg_k (30 : Int32) 30 rfl)) (lo := 30) (hi := 24) (by decide +kernel)) (by decide +kernel)).elim
        · have tc_315 : (I 194 this_scanner).toInt ≠ 30 := fun q => c_311 (Int32.toInt_inj.mp q)
          refine lv_aload_n hx hb dX4_readBehindOne_53 rfl (lv_at hl 1 rfl) ?_
          refine lv_iconst (v := 1) hx hb dX4_readBehindOne_54 (by decide +kernel) ?_
          refine pk_v (va_runV (As := [.int 1]) (rest := []) ⟨hx, hb, hml, hown, hts⟩ (s_X4_refuse l D t σ I_2 J ri rj rq H.size tg hSH hG.1 this (1 : Int32) hL_this hK_this (rg_w (rg_k (1 : Int32) 1 rfl) (by decide +kernel))) (cwV 1 hts (tw_V tw_748 tw_749 tw_750 tw_25 tw_751) rfl rfl rfl cv_yX4_refuse_1 ⟨Nat.le_of_ble_eq_true rfl, Nat.le_of_ble_eq_true rfl⟩) ⟨pq_blind, pq_recv hK hP hL_this hK_this (by decide +kernel) rfl, pq_pre hK hN hP hD⟩ rfl rfl hl.1 rfl (lv_room (Nat.le_of_ble_eq_true rfl)) dX4_readBehindOne_55 ⟨Nat.le_of_ble_eq_true rfl, Nat.le_of_ble_eq_true rfl⟩) hD hS hA (fun σ1 μ1 H locs hw_317 hP hD hS => ?_)
          obtain ⟨I_318, hu_319, hg_320, hp_322, hfn_323, hfr_324⟩ := hw_317
          obtain ⟨hu_319a, hu_319b⟩ := Prod.mk.inj hu_319
          rw [hu_319a, hu_319b] at hP hD
          replace hF := hF.trans (bv_n hfn_323)
          replace hFr := fr_tr hFr hfr_324
          have tt_325 := hp_322
          have hG := GX.tr hG hg_320 (by decide +kernel)
          have tt_326 : (I_318 132 this).toInt = (I_2 132 this).toInt := by rw [hg_320.2.1 132 (by decide +kernel) (by decide +kernel)]
          have tt_327 : (I_318 134 this).toInt = (I_2 134 this).toInt := by rw [hg_320.2.1 134 (by decide +kernel) (by decide +kernel)]
          have tt_328 : (I_318 197 this_scanner).toInt = (I_2 197 this_scanner).toInt := by rw [hg_320.2.1 197 (by decide +kernel) (by decide +kernel)]
          have tt_329 : (I_318 194 this_scanner).toInt = (I_2 194 this_scanner).toInt := by rw [hg_320.2.1 194 (by decide +kernel) (by decide +kernel)]
          refine lv_aload_n hx hb dX4_readBehindOne_58 rfl (lv_at hl 1 rfl) ?_
          refine lv_iconst (v := 1) hx hb dX4_readBehindOne_59 (by decide +kernel) ?_
          refine pk_v (va_runV (As := [.int 1]) (rest := []) ⟨hx, hb, hml, hown, hts⟩ (s_X4_settle l D t σ I_318 J ri rj rq H.size tg hSH hG.1 this (1 : Int32) hL_this hK_this) (cwV 1 hts (tw_V tw_793 tw_794 tw_795 tw_25 tw_796) rfl rfl rfl cv_yX4_settle_1 ⟨Nat.le_of_ble_eq_true rfl, Nat.le_of_ble_eq_true rfl⟩) ⟨pq_blind, pq_recv hK hP hL_this hK_this (by decide +kernel) rfl, pq_pre hK hN hP hD⟩ rfl rfl hl.1 rfl (lv_room (Nat.le_of_ble_eq_true rfl)) dX4_readBehindOne_60 ⟨Nat.le_of_ble_eq_true rfl, Nat.le_of_ble_eq_true rfl⟩) hD hS hA (fun σ1 μ1 H locs hw_331 hP hD hS => ?_)
          obtain ⟨I_332, ri_333, hu_334, hg_335, hp_337, hp_338, hfn_339, hfr_340⟩ := hw_331
          obtain ⟨hu_334a, hu_334b⟩ := Prod.mk.inj hu_334
          rw [hu_334a, hu_334b] at hP hD
          replace hF := hF.trans (bv_n hfn_339)
          replace hFr := fr_tr hFr hfr_340
          have tt_341 := hp_337
          have tt_342 := hp_338
          have hG := GX.tr hG hg_335 (by decide +kernel)
          have tt_343 : (I_332 129 this).toInt = (I_318 129 this).toInt := by rw [hg_335.2.1 129 (by decide +kernel) (by decide +kernel)]
          have tt_344 : (I_332 197 this_scanner).toInt = (I_318 197 this_scanner).toInt := by rw [hg_335.2.1 197 (by decide +kernel) (by decide +kernel)]
          have tt_345 : (I_332 194 this_scanner).toInt = (I_318 194 this_scanner).toInt := by rw [hg_335.2.1 194 (by decide +kernel) (by decide +kernel)]
          refine lv_aload_n hx hb dX4_readBehindOne_63 rfl (lv_at hl 1 rfl) ?_
          refine lv_dup hx hb dX4_readBehindOne_64 rfl ?_
          refine pg_f (v := .int (I_332 136 this)) (C := RX4) (T := TX4) (N := 12) hx hb hts (tw_i inlX4) hown hK hP hL_this hK_this (by decide +kernel) rfl 8 (by decide +kernel) (hts _ (tw_c tw_760)) rfl dX4_readBehindOne_65 ?_
          replace hF := hF.trans (ap_n (vI_e (f := 136) hO_this (by decide +kernel)))
          refine lv_iconst (v := 1) hx hb dX4_readBehindOne_68 (by decide +kernel) ?_
          refine lv_isub hx hb dX4_readBehindOne_69 ?_
          refine lv_topi (fun x_347 ex_347 => ?_)
          replace hF := hF.trans (ap_n ex_347)
          refine pp_i (v := x_347) (ty := .int) (C := RX4) (T := TX4) (N := 12) hx hb hts (tw_i inlX4) tyX4 tyX4_ok nmX4 hown hK hP hD hS hL_this hK_this (by decide +kernel) rfl 8 136 (by decide +kernel) (hts _ (tw_c tw_760)) rfl (tyX4_ok 8 (by decide +kernel)) rfl rfl (Nat.le_of_ble_eq_true rfl) (ps_136 _ _ _ _ _) dX4_readBehindOne_70 (fun I_348 H locs eI_348 hP hD hS => ?_)
          replace hFr := fr_I (f := 136) hFr hO_this (by decide +kernel) eI_348
          replace hF := hF.trans (ap_n (vI_st (f := 136) hO_this (by decide +kernel) eI_348))
          have hG := GX.wI hG 136 rfl eI_348 (rg_w (rg_full _) (by decide +kernel)) (by decide +kernel)
          have tt_349 : (I_348 132 this).toInt = (I_332 132 this).toInt := by rw [eI_348, pq_uf _ _ _ (by decide +kernel)]
          have tt_350 : (I_348 134 this).toInt = (I_332 134 this).toInt := by rw [eI_348, pq_uf _ _ _ (by decide +kernel)]
          have tt_351 : (I_348 129 this).toInt = (I_332 129 this).toInt := by rw [eI_348, pq_uf _ _ _ (by decide +kernel)]
          have tt_352 : (I_348 197 this_scanner).toInt = (I_332 197 this_scanner).toInt := by rw [eI_348, pq_uf _ _ _ (by decide +kernel)]
          have tt_353 : (I_348 194 this_scanner).toInt = (I_332 194 this_scanner).toInt := by rw [eI_348, pq_uf _ _ _ (by decide +kernel)]
          refine lv_aload_n hx hb dX4_readBehindOne_73 rfl (lv_at hl 1 rfl) ?_
          refine lv_dup hx hb dX4_readBehindOne_74 rfl ?_
          refine pg_f (v := .int (I_348 135 this)) (C := RX4) (T := TX4) (N := 12) hx hb hts (tw_i inlX4) hown hK hP hL_this hK_this (by decide +kernel) rfl 7 (by decide +kernel) (hts _ (tw_c tw_759)) rfl dX4_readBehindOne_75 ?_
          replace hF := hF.trans (ap_n (vI_e (f := 135) hO_this (by decide +kernel)))
          refine lv_iconst (v := 1) hx hb dX4_readBehindOne_78 (by decide +kernel) ?_
          refine lv_isub hx hb dX4_readBehindOne_79 ?_
          refine lv_topi (fun x_355 ex_355 => ?_)
          replace hF := hF.trans (ap_n ex_355)
          refine pp_i (v := x_355) (ty := .int) (C := RX4) (T := TX4) (N := 12) hx hb hts (tw_i inlX4) tyX4 tyX4_ok nmX4 hown hK hP hD hS hL_this hK_this (by decide +kernel) rfl 7 135 (by decide +kernel) (hts _ (tw_c tw_759)) rfl (tyX4_ok 7 (by decide +kernel)) rfl rfl (Nat.le_of_ble_eq_true rfl) (ps_135 _ _ _ _ _) dX4_readBehindOne_80 (fun I_356 H locs eI_356 hP hD hS => ?_)
          replace hFr := fr_I (f := 135) hFr hO_this (by decide +kernel) eI_356
          replace hF := hF.trans (ap_n (vI_st (f := 135) hO_this (by decide +kernel) eI_356))
          have hG := GX.wI hG 135 rfl eI_356 (rg_w (rg_full _) (by decide +kernel)) (by decide +kernel)
          have tt_357 : (I_356 132 this).toInt = (I_348 132 this).toInt := by rw [eI_356, pq_uf _ _ _ (by decide +kernel)]
          have tt_358 : (I_356 134 this).toInt = (I_348 134 this).toInt := by rw [eI_356, pq_uf _ _ _ (by decide +kernel)]
          have tt_359 : (I_356 129 this).toInt = (I_348 129 this).toInt := by rw [eI_356, pq_uf _ _ _ (by decide +kernel)]
          have tt_360 : (I_356 197 this_scanner).toInt = (I_348 197 this_scanner).toInt := by rw [eI_356, pq_uf _ _ _ (by decide +kernel)]
          have tt_361 : (I_356 194 this_scanner).toInt = (I_348 194 this_scanner).toInt := by rw [eI_356, pq_uf _ _ _ (by decide +kernel)]
          refine lv_aload_n hx hb dX4_readBehindOne_83 rfl (lv_at hl 1 rfl) ?_
          refine lv_iconst (v := 0) hx hb dX4_readBehindOne_84 (by decide +kernel) ?_
          refine lv_aload_n hx hb dX4_readBehindOne_85 rfl (lv_at hl 1 rfl) ?_
          refine pg_f (v := .int (I_356 134 this)) (C := RX4) (T := TX4) (N := 12) hx hb hts (tw_i inlX4) hown hK hP hL_this hK_this (by decide +kernel) rfl 6 (by decide +kernel) (hts _ (tw_c tw_758)) rfl dX4_readBehindOne_86 ?_
          have h_362 : rg (I_356 134 this) 0 40 := GX.rI hG 134 rfl
          have uh_362 := h_362.1
          have vh_362 := h_362.2
          replace hF := hF.trans (ap_n (vI_e (f := 134) hO_this (by decide +kernel)))
          refine lv_iconst (v := 1) hx hb dX4_readBehindOne_89 (by decide +kernel) ?_
          refine lv_isub hx hb dX4_readBehindOne_90 ?_
          refine lv_topi (fun x_364 ex_364 => ?_)
          replace hF := hF.trans (ap_n ex_364)
          have h_365 : rg x_364 (-1) 39 := rg_of_eq ex_364 (rg_sub h_362 (rg_k (1 : Int32) 1 rfl) (by decide +kernel))
          have uh_365 := h_365.1
          have vh_365 := h_365.2
          have tx_364 : (x_364).toInt = (I_356 134 this).toInt - 1 := by rw [ex_364]; exact i_sub_rg (a2 := (I_356 134 this).toInt) (b2 := 1) rfl rfl h_362 (rg_k (1 : Int32) 1 rfl) (by decide +kernel)
          refine va_mmax hx hb (hml.trans hl.1.symm) hown (hts _ (tw_c tw_789)) (hts _ (tw_c tw_275)) (hts _ (tw_c tw_276)) (hts _ (tw_c tw_277)) (Nat.le_of_ble_eq_true rfl) (Nat.le_of_ble_eq_true rfl) (Nat.zero_le _) (Nat.zero_le _) dX4_readBehindOne_91 ?_
          refine lv_topi (fun x_366 ex_366 => ?_)
          replace hF := hF.trans (ap_n ex_366)
          have h_367 : rg x_366 0 39 := rg_of_eq ex_366 (rg_max2 (rg_k (0 : Int32) 0 rfl) h_365 (by decide +kernel))
          have uh_367 := h_367.1
          have vh_367 := h_367.2
          have tx_366 : (x_366).toInt = 0 ∨ (x_366).toInt = (x_364).toInt := by rw [ex_366]; exact max_or _ _
          refine pp_i (v := x_366) (ty := .int) (C := RX4) (T := TX4) (N := 12) hx hb hts (tw_i inlX4) tyX4 tyX4_ok nmX4 hown hK hP hD hS hL_this hK_this (by decide +kernel) rfl 6 134 (by decide +kernel) (hts _ (tw_c tw_758)) rfl (tyX4_ok 6 (by decide +kernel)) rfl rfl (Nat.le_of_ble_eq_true rfl) (ps_134 _ _ _ _ _) dX4_readBehindOne_94 (fun I_368 H locs eI_368 hP hD hS => ?_)
          replace hFr := fr_I (f := 134) hFr hO_this (by decide +kernel) eI_368
          replace hF := hF.trans (ap_n (vI_st (f := 134) hO_this (by decide +kernel) eI_368))
          have hG := GX.wI hG 134 rfl eI_368 (rg_w h_367 (by decide +kernel)) (by decide +kernel)
          have tt_369 : (I_368 132 this).toInt = (I_356 132 this).toInt := by rw [eI_368, pq_uf _ _ _ (by decide +kernel)]
          have tt_370 : (I_368 134 this).toInt = (x_366).toInt := by rw [eI_368, pq_us]
          have tt_371 : (I_368 129 this).toInt = (I_356 129 this).toInt := by rw [eI_368, pq_uf _ _ _ (by decide +kernel)]
          have tt_372 : (I_368 197 this_scanner).toInt = (I_356 197 this_scanner).toInt := by rw [eI_368, pq_uf _ _ _ (by decide +kernel)]
          have tt_373 : (I_368 194 this_scanner).toInt = (I_356 194 this_scanner).toInt := by rw [eI_368, pq_uf _ _ _ (by decide +kernel)]
          refine lv_iconst (v := 0) hx hb dX4_readBehindOne_97 (by decide +kernel) ?_
          subst hQ
          exact W.zret (v := 0) hx hb hr (by decide +kernel) (fun t1 ht hW => ⟨⟨0, (σ, I_368, J, ri_333, rj, rq), rfl, ⟨I_368, ri_333, rfl, hG, (by omega), (ft_t (fun _ _ => rfl) hp_338), (hF0.symm.trans hF), hFr, (Or.inr ⟨rfl, trivial⟩)⟩, by rw [ht]; exact hP, va_K.moved hW.alike hK, hD⟩, hS.F ht⟩) hS.2.2 dX4_readBehindOne_98
    · replace hF := hF.trans (if_neg c_8)
      have tc_374 : 25 ≤ (I 194 this_scanner).toInt := Int32.le_iff_toInt_le.mp (nlt c_8)
      have h_375 : rg (I 194 this_scanner) 25 2147483647 := rg_le2 (nlt c_8) (rg_k (25 : Int32) 25 rfl) (rg_full _) (by decide +kernel)
      have uh_375 := h_375.1
      have vh_375 := h_375.2
      refine lv_iload_n hx hb dX4_readBehindOne_19 rfl (lv_at hl 0 rfl) ?_
      refine lv_bipush (v := 28) hx hb dX4_readBehindOne_20 (by decide +kernel) ?_
      refine lv_icmp_gt (tgt := 40) hx hb dX4_readBehindOne_22 (by decide +kernel) (fun c_376 => ?_) (fun c_376 => ?_)
      · replace hF := hF.trans (if_pos c_376)
        have tc_381 : 28 < (I 194 this_scanner).toInt := Int32.lt_iff_toInt_lt.mp c_376
        have h_382 : rg (I 194 this_scanner) 29 2147483647 := rg_lt2 c_376 (rg_k (28 : Int32) 28 rfl) h_375 (by decide +kernel)
        have uh_382 := h_382.1
        have vh_382 := h_382.2
        refine lv_aload_n hx hb dX4_readBehindOne_40 rfl (lv_at hl 1 rfl) ?_
        refine pg_f (v := .int (I_2 136 this)) (C := RX4) (T := TX4) (N := 12) hx hb hts (tw_i inlX4) hown hK hP hL_this hK_this (by decide +kernel) rfl 8 (by decide +kernel) (hts _ (tw_c tw_760)) rfl dX4_readBehindOne_41 ?_
        replace hF := hF.trans (ap_n (vI_e (f := 136) hO_this (by decide +kernel)))
        refine lv_if_le (tgt := 99) hx hb dX4_readBehindOne_44 (by decide +kernel) (fun c_384 => ?_) (fun c_384 => ?_)
        · replace hF := hF.trans (if_pos c_384)
          have tc_389 : (I_2 136 this).toInt ≤ 0 := Int32.le_iff_toInt_le.mp c_384
          have h_390 : rg (I_2 136 this) (-2147483648) 0 := rg_le1 c_384 (rg_full _) (rg_k (0 : Int32) 0 rfl) (by decide +kernel)
          have uh_390 := h_390.1
          have vh_390 := h_390.2
          refine lv_aload_n hx hb dX4_readBehindOne_99 rfl (lv_at hl 1 rfl) ?_
          refine pg_f (v := .int (I_2 138 this)) (C := RX4) (T := TX4) (N := 12) hx hb hts (tw_i inlX4) hown hK hP hL_this hK_this (by decide +kernel) rfl 10 (by decide +kernel) (hts _ (tw_c tw_762)) rfl dX4_readBehindOne_100 ?_
          have h_391 : rg (I_2 138 this) 0 1 := GX.rI hG 138 rfl
          have uh_391 := h_391.1
          have vh_391 := h_391.2
          replace hF := hF.trans (ap_n (vI_e (f := 138) hO_this (by decide +kernel)))
          refine lv_if_ne (tgt := 138) hx hb dX4_readBehindOne_103 (by decide +kernel) (fun c_393 => ?_) (fun c_393 => ?_)
          · replace hF := hF.trans (if_neg c_393)
            have tc_398 : (I_2 138 this).toInt ≠ 0 := fun q => c_393 (Int32.toInt_inj.mp q)
            have h_399 : rg (I_2 138 this) 1 1 := rg_ne c_393 h_391 0 rfl (by decide +kernel)
            have uh_399 := h_399.1
            have vh_399 := h_399.2
            refine lv_aload_n hx hb dX4_readBehindOne_138 rfl (lv_at hl 1 rfl) ?_
            refine pg_f (v := .int (I_2 138 this)) (C := RX4) (T := TX4) (N := 12) hx hb hts (tw_i inlX4) hown hK hP hL_this hK_this (by decide +kernel) rfl 10 (by decide +kernel) (hts _ (tw_c tw_762)) rfl dX4_readBehindOne_139 ?_
            refine lv_if_eq (tgt := 182) hx hb dX4_readBehindOne_142 (by decide +kernel) (fun c_400 => ?_) (fun c_400 => ?_)
            · have tc_403 : (I_2 138 this).toInt = 0 := congrArg Int32.toInt c_400
              exact (rg_empty (rg_and h_399 (rg_of_eq c_400 (rg_k (0 : Int32) 0 rfl)) (lo := 1) (hi := 0) (by decide +kernel)) (by decide +kernel)).elim
            · have tc_404 : (I_2 138 this).toInt ≠ 0 := fun q => c_400 (Int32.toInt_inj.mp q)
              refine lv_iload_n hx hb dX4_readBehindOne_145 rfl (lv_at hl 0 rfl) ?_
              refine lv_bipush (v := 9) hx hb dX4_readBehindOne_146 (by decide +kernel) ?_
              refine lv_icmp_eq (tgt := 157) hx hb dX4_readBehindOne_148 (by decide +kernel) (fun c_405 => ?_) (fun c_405 => ?_)
              · have tc_408 : (I 194 this_scanner).toInt = 9 := congrArg Int32.toInt c_405
                exact (rg_empty (rg_and h_382 (rg_of_eq c_405 (rg_k (9 : Int32) 9 rfl)) (lo := 29) (hi := 9) (by decide +kernel)) (by decide +kernel)).elim
              · have tc_409 : (I 194 this_scanner).toInt ≠ 9 := fun q => c_405 (Int32.toInt_inj.mp q)
                refine lv_iload_n hx hb dX4_readBehindOne_151 rfl (lv_at hl 0 rfl) ?_
                refine lv_bipush (v := 10) hx hb dX4_readBehindOne_152 (by decide +kernel) ?_
                refine lv_icmp_ne (tgt := 182) hx hb dX4_readBehindOne_154 (by decide +kernel) (fun c_410 => ?_) (fun c_410 => ?_)
                · have tc_413 : (I 194 this_scanner).toInt ≠ 10 := fun q => c_410 (Int32.toInt_inj.mp q)
                  refine lv_aload_n hx hb dX4_readBehindOne_182 rfl (lv_at hl 1 rfl) ?_
                  refine pg_f (v := .int (I_2 138 this)) (C := RX4) (T := TX4) (N := 12) hx hb hts (tw_i inlX4) hown hK hP hL_this hK_this (by decide +kernel) rfl 10 (by decide +kernel) (hts _ (tw_c tw_762)) rfl dX4_readBehindOne_183 ?_
                  refine lv_if_eq (tgt := 195) hx hb dX4_readBehindOne_186 (by decide +kernel) (fun c_414 => ?_) (fun c_414 => ?_)
                  · have tc_417 : (I_2 138 this).toInt = 0 := congrArg Int32.toInt c_414
                    exact (rg_empty (rg_and h_399 (rg_of_eq c_414 (rg_k (0 : Int32) 0 rfl)) (lo := 1) (hi := 0) (by decide +kernel)) (by decide +kernel)).elim
                  · have tc_418 : (I_2 138 this).toInt ≠ 0 := fun q => c_414 (Int32.toInt_inj.mp q)
                    refine lv_iload_n hx hb dX4_readBehindOne_189 rfl (lv_at hl 0 rfl) ?_
                    refine lv_bipush (v := 32) hx hb dX4_readBehindOne_190 (by decide +kernel) ?_
                    refine lv_icmp_eq (tgt := 200) hx hb dX4_readBehindOne_192 (by decide +kernel) (fun c_419 => ?_) (fun c_419 => ?_)
                    · replace hF := hF.trans (if_pos c_419)
                      have tc_423 : (I 194 this_scanner).toInt = 32 := congrArg Int32.toInt c_419
                      have h_424 : rg (I 194 this_scanner) 32 32 := rg_and h_382 (rg_of_eq c_419 (rg_k (32 : Int32) 32 rfl)) (by decide +kernel)
                      have uh_424 := h_424.1
                      have vh_424 := h_424.2
                      refine lv_aload_n hx hb dX4_readBehindOne_200 rfl (lv_at hl 1 rfl) ?_
                      refine lv_iconst (v := 1) hx hb dX4_readBehindOne_201 (by decide +kernel) ?_
                      refine pk_v (va_runV (As := [.int 1]) (rest := []) ⟨hx, hb, hml, hown, hts⟩ (s_X4_settle l D t σ I_2 J ri rj rq H.size tg hSH hG.1 this (1 : Int32) hL_this hK_this) (cwV 1 hts (tw_V tw_793 tw_794 tw_795 tw_25 tw_796) rfl rfl rfl cv_yX4_settle_1 ⟨Nat.le_of_ble_eq_true rfl, Nat.le_of_ble_eq_true rfl⟩) ⟨pq_blind, pq_recv hK hP hL_this hK_this (by decide +kernel) rfl, pq_pre hK hN hP hD⟩ rfl rfl hl.1 rfl (lv_room (Nat.le_of_ble_eq_true rfl)) dX4_readBehindOne_202 ⟨Nat.le_of_ble_eq_true rfl, Nat.le_of_ble_eq_true rfl⟩) hD hS hA (fun σ1 μ1 H locs hw_426 hP hD hS => ?_)
                      obtain ⟨I_427, ri_428, hu_429, hg_430, hp_432, hp_433, hfn_434, hfr_435⟩ := hw_426
                      obtain ⟨hu_429a, hu_429b⟩ := Prod.mk.inj hu_429
                      rw [hu_429a, hu_429b] at hP hD
                      replace hF := hF.trans (bv_n hfn_434)
                      replace hFr := fr_tr hFr hfr_435
                      have tt_436 := hp_432
                      have tt_437 := hp_433
                      have hG := GX.tr hG hg_430 (by decide +kernel)
                      have tt_438 : (I_427 129 this).toInt = (I_2 129 this).toInt := by rw [hg_430.2.1 129 (by decide +kernel) (by decide +kernel)]
                      have tt_439 : (I_427 197 this_scanner).toInt = (I_2 197 this_scanner).toInt := by rw [hg_430.2.1 197 (by decide +kernel) (by decide +kernel)]
                      have tt_440 : (I_427 194 this_scanner).toInt = (I_2 194 this_scanner).toInt := by rw [hg_430.2.1 194 (by decide +kernel) (by decide +kernel)]
                      refine lv_aload_n hx hb dX4_readBehindOne_205 rfl (lv_at hl 1 rfl) ?_
                      refine lv_iconst (v := 1) hx hb dX4_readBehindOne_206 (by decide +kernel) ?_
                      refine pp_i (v := 1) (ty := .boolean) (C := RX4) (T := TX4) (N := 12) hx hb hts (tw_i inlX4) tyX4 tyX4_ok nmX4 hown hK hP hD hS hL_this hK_this (by decide +kernel) rfl 11 139 (by decide +kernel) (hts _ (tw_c tw_763)) rfl (tyX4_ok 11 (by decide +kernel)) rfl (by decide +kernel) (Nat.le_of_ble_eq_true rfl) (ps_139 _ _ _ _ _) dX4_readBehindOne_207 (fun I_441 H locs eI_441 hP hD hS => ?_)
                      replace hFr := fr_I (f := 139) hFr hO_this (by decide +kernel) eI_441
                      replace hF := hF.trans (ap_n (vI_st (f := 139) hO_this (by decide +kernel) eI_441))
                      have hG := GX.wI hG 139 rfl eI_441 (rg_w (rg_k (1 : Int32) 1 rfl) (by decide +kernel)) (by decide +kernel)
                      have tt_442 : (I_441 132 this).toInt = (I_427 132 this).toInt := by rw [eI_441, pq_uf _ _ _ (by decide +kernel)]
                      have tt_443 : (I_441 134 this).toInt = (I_427 134 this).toInt := by rw [eI_441, pq_uf _ _ _ (by decide +kernel)]
                      have tt_444 : (I_441 129 this).toInt = (I_427 129 this).toInt := by rw [eI_441, pq_uf _ _ _ (by decide +kernel)]
                      have tt_445 : (I_441 197 this_scanner).toInt = (I_427 197 this_scanner).toInt := by rw [eI_441, pq_uf _ _ _ (by decide +kernel)]
                      have tt_446 : (I_441 194 this_scanner).toInt = (I_427 194 this_scanner).toInt := by rw [eI_441, pq_uf _ _ _ (by decide +kernel)]
                      refine lv_iconst (v := 0) hx hb dX4_readBehindOne_210 (by decide +kernel) ?_
                      subst hQ
                      exact W.zret (v := 0) hx hb hr (by decide +kernel) (fun t1 ht hW => ⟨⟨0, (σ, I_441, J, ri_428, rj, rq), rfl, ⟨I_441, ri_428, rfl, hG, (by omega), (ft_t (fun _ _ => rfl) hp_433), (hF0.symm.trans hF), hFr, (Or.inr ⟨rfl, trivial⟩)⟩, by rw [ht]; exact hP, va_K.moved hW.alike hK, hD⟩, hS.F ht⟩) hS.2.2 dX4_readBehindOne_211
                    · replace hF := hF.trans (if_neg c_419)
                      have tc_447 : (I 194 this_scanner).toInt ≠ 32 := fun q => c_419 (Int32.toInt_inj.mp q)
                      refine lv_aload_n hx hb dX4_readBehindOne_195 rfl (lv_at hl 1 rfl) ?_
                      refine lv_iconst (v := 1) hx hb dX4_readBehindOne_196 (by decide +kernel) ?_
                      refine pk_v (va_runV (As := [.int 1]) (rest := []) ⟨hx, hb, hml, hown, hts⟩ (s_X4_refuse l D t σ I_2 J ri rj rq H.size tg hSH hG.1 this (1 : Int32) hL_this hK_this (rg_w (rg_k (1 : Int32) 1 rfl) (by decide +kernel))) (cwV 1 hts (tw_V tw_748 tw_749 tw_750 tw_25 tw_751) rfl rfl rfl cv_yX4_refuse_1 ⟨Nat.le_of_ble_eq_true rfl, Nat.le_of_ble_eq_true rfl⟩) ⟨pq_blind, pq_recv hK hP hL_this hK_this (by decide +kernel) rfl, pq_pre hK hN hP hD⟩ rfl rfl hl.1 rfl (lv_room (Nat.le_of_ble_eq_true rfl)) dX4_readBehindOne_197 ⟨Nat.le_of_ble_eq_true rfl, Nat.le_of_ble_eq_true rfl⟩) hD hS hA (fun σ1 μ1 H locs hw_449 hP hD hS => ?_)
                      obtain ⟨I_450, hu_451, hg_452, hp_454, hfn_455, hfr_456⟩ := hw_449
                      obtain ⟨hu_451a, hu_451b⟩ := Prod.mk.inj hu_451
                      rw [hu_451a, hu_451b] at hP hD
                      replace hF := hF.trans (bv_n hfn_455)
                      replace hFr := fr_tr hFr hfr_456
                      have tt_457 := hp_454
                      have hG := GX.tr hG hg_452 (by decide +kernel)
                      have tt_458 : (I_450 132 this).toInt = (I_2 132 this).toInt := by rw [hg_452.2.1 132 (by decide +kernel) (by decide +kernel)]
                      have tt_459 : (I_450 134 this).toInt = (I_2 134 this).toInt := by rw [hg_452.2.1 134 (by decide +kernel) (by decide +kernel)]
                      have tt_460 : (I_450 197 this_scanner).toInt = (I_2 197 this_scanner).toInt := by rw [hg_452.2.1 197 (by decide +kernel) (by decide +kernel)]
                      have tt_461 : (I_450 194 this_scanner).toInt = (I_2 194 this_scanner).toInt := by rw [hg_452.2.1 194 (by decide +kernel) (by decide +kernel)]
                      refine lv_aload_n hx hb dX4_readBehindOne_200 rfl (lv_at hl 1 rfl) ?_
                      refine lv_iconst (v := 1) hx hb dX4_readBehindOne_201 (by decide +kernel) ?_
                      refine pk_v (va_runV (As := [.int 1]) (rest := []) ⟨hx, hb, hml, hown, hts⟩ (s_X4_settle l D t σ I_450 J ri rj rq H.size tg hSH hG.1 this (1 : Int32) hL_this hK_this) (cwV 1 hts (tw_V tw_793 tw_794 tw_795 tw_25 tw_796) rfl rfl rfl cv_yX4_settle_1 ⟨Nat.le_of_ble_eq_true rfl, Nat.le_of_ble_eq_true rfl⟩) ⟨pq_blind, pq_recv hK hP hL_this hK_this (by decide +kernel) rfl, pq_pre hK hN hP hD⟩ rfl rfl hl.1 rfl (lv_room (Nat.le_of_ble_eq_true rfl)) dX4_readBehindOne_202 ⟨Nat.le_of_ble_eq_true rfl, Nat.le_of_ble_eq_true rfl⟩) hD hS hA (fun σ1 μ1 H locs hw_463 hP hD hS => ?_)
                      obtain ⟨I_464, ri_465, hu_466, hg_467, hp_469, hp_470, hfn_471, hfr_472⟩ := hw_463
                      obtain ⟨hu_466a, hu_466b⟩ := Prod.mk.inj hu_466
                      rw [hu_466a, hu_466b] at hP hD
                      replace hF := hF.trans (bv_n hfn_471)
                      replace hFr := fr_tr hFr hfr_472
                      have tt_473 := hp_469
                      have tt_474 := hp_470
                      have hG := GX.tr hG hg_467 (by decide +kernel)
                      have tt_475 : (I_464 129 this).toInt = (I_450 129 this).toInt := by rw [hg_467.2.1 129 (by decide +kernel) (by decide +kernel)]
                      have tt_476 : (I_464 197 this_scanner).toInt = (I_450 197 this_scanner).toInt := by rw [hg_467.2.1 197 (by decide +kernel) (by decide +kernel)]
                      have tt_477 : (I_464 194 this_scanner).toInt = (I_450 194 this_scanner).toInt := by rw [hg_467.2.1 194 (by decide +kernel) (by decide +kernel)]
                      refine lv_aload_n hx hb dX4_readBehindOne_205 rfl (lv_at hl 1 rfl) ?_
                      refine lv_iconst (v := 1) hx hb dX4_readBehindOne_206 (by decide +kernel) ?_
                      refine pp_i (v := 1) (ty := .boolean) (C := RX4) (T := TX4) (N := 12) hx hb hts (tw_i inlX4) tyX4 tyX4_ok nmX4 hown hK hP hD hS hL_this hK_this (by decide +kernel) rfl 11 139 (by decide +kernel) (hts _ (tw_c tw_763)) rfl (tyX4_ok 11 (by decide +kernel)) rfl (by decide +kernel) (Nat.le_of_ble_eq_true rfl) (ps_139 _ _ _ _ _) dX4_readBehindOne_207 (fun I_478 H locs eI_478 hP hD hS => ?_)
                      replace hFr := fr_I (f := 139) hFr hO_this (by decide +kernel) eI_478
                      replace hF := hF.trans (ap_n (vI_st (f := 139) hO_this (by decide +kernel) eI_478))
                      have hG := GX.wI hG 139 rfl eI_478 (rg_w (rg_k (1 : Int32) 1 rfl) (by decide +kernel)) (by decide +kernel)
                      have tt_479 : (I_478 132 this).toInt = (I_464 132 this).toInt := by rw [eI_478, pq_uf _ _ _ (by decide +kernel)]
                      have tt_480 : (I_478 134 this).toInt = (I_464 134 this).toInt := by rw [eI_478, pq_uf _ _ _ (by decide +kernel)]
                      have tt_481 : (I_478 129 this).toInt = (I_464 129 this).toInt := by rw [eI_478, pq_uf _ _ _ (by decide +kernel)]
                      have tt_482 : (I_478 197 this_scanner).toInt = (I_464 197 this_scanner).toInt := by rw [eI_478, pq_uf _ _ _ (by decide +kernel)]
                      have tt_483 : (I_478 194 this_scanner).toInt = (I_464 194 this_scanner).toInt := by rw [eI_478, pq_uf _ _ _ (by decide +kernel)]
                      refine lv_iconst (v := 0) hx hb dX4_readBehindOne_210 (by decide +kernel) ?_
                      subst hQ
                      exact W.zret (v := 0) hx hb hr (by decide +kernel) (fun t1 ht hW => ⟨⟨0, (σ, I_478, J, ri_465, rj, rq), rfl, ⟨I_478, ri_465, rfl, hG, (by omega), (ft_t (fun _ _ => rfl) hp_470), (hF0.symm.trans hF), hFr, (Or.inr ⟨rfl, trivial⟩)⟩, by rw [ht]; exact hP, va_K.moved hW.alike hK, hD⟩, hS.F ht⟩) hS.2.2 dX4_readBehindOne_211
                · have tc_484 : (I 194 this_scanner).toInt = 10 := congrArg Int32.toInt c_410
                  exact (rg_empty (rg_and h_382 (rg_of_eq c_410 (rg_k (10 : Int32) 10 rfl)) (lo := 29) (hi := 10) (by decide +kernel)) (by decide +kernel)).elim
          · replace hF := hF.trans (if_pos c_393)
            have tc_485 : (I_2 138 this).toInt = 0 := congrArg Int32.toInt c_393
            have h_486 : rg (I_2 138 this) 0 0 := rg_and h_391 (rg_of_eq c_393 (rg_k (0 : Int32) 0 rfl)) (by decide +kernel)
            have uh_486 := h_486.1
            have vh_486 := h_486.2
            refine lv_iload_n hx hb dX4_readBehindOne_106 rfl (lv_at hl 0 rfl) ?_
            refine lv_bipush (v := 19) hx hb dX4_readBehindOne_107 (by decide +kernel) ?_
            refine lv_icmp_lt (tgt := 138) hx hb dX4_readBehindOne_109 (by decide +kernel) (fun c_487 => ?_) (fun c_487 => ?_)
            · have tc_490 : (I 194 this_scanner).toInt < 19 := Int32.lt_iff_toInt_lt.mp c_487
              exact (rg_empty (rg_lt1 c_487 h_382 (rg_k (19 : Int32) 19 rfl) (lo := 29) (hi := 18) (by decide +kernel)) (by decide +kernel)).elim
            · have tc_491 : 19 ≤ (I 194 this_scanner).toInt := Int32.le_iff_toInt_le.mp (nlt c_487)
              refine lv_iload_n hx hb dX4_readBehindOne_112 rfl (lv_at hl 0 rfl) ?_
              refine lv_bipush (v := 24) hx hb dX4_readBehindOne_113 (by decide +kernel) ?_
              refine lv_icmp_gt (tgt := 138) hx hb dX4_readBehindOne_115 (by decide +kernel) (fun c_492 => ?_) (fun c_492 => ?_)
              · have tc_495 : 24 < (I 194 this_scanner).toInt := Int32.lt_iff_toInt_lt.mp c_492
                refine lv_aload_n hx hb dX4_readBehindOne_138 rfl (lv_at hl 1 rfl) ?_
                refine pg_f (v := .int (I_2 138 this)) (C := RX4) (T := TX4) (N := 12) hx hb hts (tw_i inlX4) hown hK hP hL_this hK_this (by decide +kernel) rfl 10 (by decide +kernel) (hts _ (tw_c tw_762)) rfl dX4_readBehindOne_139 ?_
                refine lv_if_eq (tgt := 182) hx hb dX4_readBehindOne_142 (by decide +kernel) (fun c_496 => ?_) (fun c_496 => ?_)
                · have tc_499 : (I_2 138 this).toInt = 0 := congrArg Int32.toInt c_496
                  refine lv_aload_n hx hb dX4_readBehindOne_182 rfl (lv_at hl 1 rfl) ?_
                  refine pg_f (v := .int (I_2 138 this)) (C := RX4) (T := TX4) (N := 12) hx hb hts (tw_i inlX4) hown hK hP hL_this hK_this (by decide +kernel) rfl 10 (by decide +kernel) (hts _ (tw_c tw_762)) rfl dX4_readBehindOne_183 ?_
                  refine lv_if_eq (tgt := 195) hx hb dX4_readBehindOne_186 (by decide +kernel) (fun c_500 => ?_) (fun c_500 => ?_)
                  · have tc_503 : (I_2 138 this).toInt = 0 := congrArg Int32.toInt c_500
                    refine lv_aload_n hx hb dX4_readBehindOne_195 rfl (lv_at hl 1 rfl) ?_
                    refine lv_iconst (v := 1) hx hb dX4_readBehindOne_196 (by decide +kernel) ?_
                    refine pk_v (va_runV (As := [.int 1]) (rest := []) ⟨hx, hb, hml, hown, hts⟩ (s_X4_refuse l D t σ I_2 J ri rj rq H.size tg hSH hG.1 this (1 : Int32) hL_this hK_this (rg_w (rg_k (1 : Int32) 1 rfl) (by decide +kernel))) (cwV 1 hts (tw_V tw_748 tw_749 tw_750 tw_25 tw_751) rfl rfl rfl cv_yX4_refuse_1 ⟨Nat.le_of_ble_eq_true rfl, Nat.le_of_ble_eq_true rfl⟩) ⟨pq_blind, pq_recv hK hP hL_this hK_this (by decide +kernel) rfl, pq_pre hK hN hP hD⟩ rfl rfl hl.1 rfl (lv_room (Nat.le_of_ble_eq_true rfl)) dX4_readBehindOne_197 ⟨Nat.le_of_ble_eq_true rfl, Nat.le_of_ble_eq_true rfl⟩) hD hS hA (fun σ1 μ1 H locs hw_505 hP hD hS => ?_)
                    obtain ⟨I_506, hu_507, hg_508, hp_510, hfn_511, hfr_512⟩ := hw_505
                    obtain ⟨hu_507a, hu_507b⟩ := Prod.mk.inj hu_507
                    rw [hu_507a, hu_507b] at hP hD
                    replace hF := hF.trans (bv_n hfn_511)
                    replace hFr := fr_tr hFr hfr_512
                    have tt_513 := hp_510
                    have hG := GX.tr hG hg_508 (by decide +kernel)
                    have tt_514 : (I_506 132 this).toInt = (I_2 132 this).toInt := by rw [hg_508.2.1 132 (by decide +kernel) (by decide +kernel)]
                    have tt_515 : (I_506 134 this).toInt = (I_2 134 this).toInt := by rw [hg_508.2.1 134 (by decide +kernel) (by decide +kernel)]
                    have tt_516 : (I_506 197 this_scanner).toInt = (I_2 197 this_scanner).toInt := by rw [hg_508.2.1 197 (by decide +kernel) (by decide +kernel)]
                    have tt_517 : (I_506 194 this_scanner).toInt = (I_2 194 this_scanner).toInt := by rw [hg_508.2.1 194 (by decide +kernel) (by decide +kernel)]
                    refine lv_aload_n hx hb dX4_readBehindOne_200 rfl (lv_at hl 1 rfl) ?_
                    refine lv_iconst (v := 1) hx hb dX4_readBehindOne_201 (by decide +kernel) ?_
                    refine pk_v (va_runV (As := [.int 1]) (rest := []) ⟨hx, hb, hml, hown, hts⟩ (s_X4_settle l D t σ I_506 J ri rj rq H.size tg hSH hG.1 this (1 : Int32) hL_this hK_this) (cwV 1 hts (tw_V tw_793 tw_794 tw_795 tw_25 tw_796) rfl rfl rfl cv_yX4_settle_1 ⟨Nat.le_of_ble_eq_true rfl, Nat.le_of_ble_eq_true rfl⟩) ⟨pq_blind, pq_recv hK hP hL_this hK_this (by decide +kernel) rfl, pq_pre hK hN hP hD⟩ rfl rfl hl.1 rfl (lv_room (Nat.le_of_ble_eq_true rfl)) dX4_readBehindOne_202 ⟨Nat.le_of_ble_eq_true rfl, Nat.le_of_ble_eq_true rfl⟩) hD hS hA (fun σ1 μ1 H locs hw_519 hP hD hS => ?_)
                    obtain ⟨I_520, ri_521, hu_522, hg_523, hp_525, hp_526, hfn_527, hfr_528⟩ := hw_519
                    obtain ⟨hu_522a, hu_522b⟩ := Prod.mk.inj hu_522
                    rw [hu_522a, hu_522b] at hP hD
                    replace hF := hF.trans (bv_n hfn_527)
                    replace hFr := fr_tr hFr hfr_528
                    have tt_529 := hp_525
                    have tt_530 := hp_526
                    have hG := GX.tr hG hg_523 (by decide +kernel)
                    have tt_531 : (I_520 129 this).toInt = (I_506 129 this).toInt := by rw [hg_523.2.1 129 (by decide +kernel) (by decide +kernel)]
                    have tt_532 : (I_520 197 this_scanner).toInt = (I_506 197 this_scanner).toInt := by rw [hg_523.2.1 197 (by decide +kernel) (by decide +kernel)]
                    have tt_533 : (I_520 194 this_scanner).toInt = (I_506 194 this_scanner).toInt := by rw [hg_523.2.1 194 (by decide +kernel) (by decide +kernel)]
                    refine lv_aload_n hx hb dX4_readBehindOne_205 rfl (lv_at hl 1 rfl) ?_
                    refine lv_iconst (v := 1) hx hb dX4_readBehindOne_206 (by decide +kernel) ?_
                    refine pp_i (v := 1) (ty := .boolean) (C := RX4) (T := TX4) (N := 12) hx hb hts (tw_i inlX4) tyX4 tyX4_ok nmX4 hown hK hP hD hS hL_this hK_this (by decide +kernel) rfl 11 139 (by decide +kernel) (hts _ (tw_c tw_763)) rfl (tyX4_ok 11 (by decide +kernel)) rfl (by decide +kernel) (Nat.le_of_ble_eq_true rfl) (ps_139 _ _ _ _ _) dX4_readBehindOne_207 (fun I_534 H locs eI_534 hP hD hS => ?_)
                    replace hFr := fr_I (f := 139) hFr hO_this (by decide +kernel) eI_534
                    replace hF := hF.trans (ap_n (vI_st (f := 139) hO_this (by decide +kernel) eI_534))
                    have hG := GX.wI hG 139 rfl eI_534 (rg_w (rg_k (1 : Int32) 1 rfl) (by decide +kernel)) (by decide +kernel)
                    have tt_535 : (I_534 132 this).toInt = (I_520 132 this).toInt := by rw [eI_534, pq_uf _ _ _ (by decide +kernel)]
                    have tt_536 : (I_534 134 this).toInt = (I_520 134 this).toInt := by rw [eI_534, pq_uf _ _ _ (by decide +kernel)]
                    have tt_537 : (I_534 129 this).toInt = (I_520 129 this).toInt := by rw [eI_534, pq_uf _ _ _ (by decide +kernel)]
                    have tt_538 : (I_534 197 this_scanner).toInt = (I_520 197 this_scanner).toInt := by rw [eI_534, pq_uf _ _ _ (by decide +kernel)]
                    have tt_539 : (I_534 194 this_scanner).toInt = (I_520 194 this_scanner).toInt := by rw [eI_534, pq_uf _ _ _ (by decide +kernel)]
                    refine lv_iconst (v := 0) hx hb dX4_readBehindOne_210 (by decide +kernel) ?_
                    subst hQ
                    exact W.zret (v := 0) hx hb hr (by decide +kernel) (fun t1 ht hW => ⟨⟨0, (σ, I_534, J, ri_521, rj, rq), rfl, ⟨I_534, ri_521, rfl, hG, (by omega), (ft_t (fun _ _ => rfl) hp_526), (hF0.symm.trans hF), hFr, (Or.inr ⟨rfl, trivial⟩)⟩, by rw [ht]; exact hP, va_K.moved hW.alike hK, hD⟩, hS.F ht⟩) hS.2.2 dX4_readBehindOne_211
                  · have tc_540 : (I_2 138 this).toInt ≠ 0 := fun q => c_500 (Int32.toInt_inj.mp q)
                    exact (rg_empty (rg_ne c_500 h_486 0 rfl (lo := 1) (hi := (-1)) (by decide +kernel)) (by decide +kernel)).elim
                · have tc_541 : (I_2 138 this).toInt ≠ 0 := fun q => c_496 (Int32.toInt_inj.mp q)
                  exact (rg_empty (rg_ne c_496 h_486 0 rfl (lo := 1) (hi := (-1)) (by decide +kernel)) (by decide +kernel)).elim
              · have tc_542 : (I 194 this_scanner).toInt ≤ 24 := Int32.le_iff_toInt_le.mp (nlt c_492)
                exact (rg_empty (rg_le1 (nlt c_492) h_382 (rg_k (24 : Int32) 24 rfl) (lo := 29) (hi := 24) (by decide +kernel)) (by decide +kernel)).elim
        · replace hF := hF.trans (if_neg c_384)
          have tc_543 : 0 < (I_2 136 this).toInt := Int32.lt_iff_toInt_lt.mp (nle c_384)
          have h_544 : rg (I_2 136 this) 1 2147483647 := rg_lt2 (nle c_384) (rg_k (0 : Int32) 0 rfl) (rg_full _) (by decide +kernel)
          have uh_544 := h_544.1
          have vh_544 := h_544.2
          refine lv_iload_n hx hb dX4_readBehindOne_47 rfl (lv_at hl 0 rfl) ?_
          refine lv_bipush (v := 30) hx hb dX4_readBehindOne_48 (by decide +kernel) ?_
          refine lv_icmp_eq (tgt := 58) hx hb dX4_readBehindOne_50 (by decide +kernel) (fun c_545 => ?_) (fun c_545 => ?_)
          · replace hF := hF.trans (if_pos c_545)
            have tc_549 : (I 194 this_scanner).toInt = 30 := congrArg Int32.toInt c_545
            have h_550 : rg (I 194 this_scanner) 30 30 := rg_and h_382 (rg_of_eq c_545 (rg_k (30 : Int32) 30 rfl)) (by decide +kernel)
            have uh_550 := h_550.1
            have vh_550 := h_550.2
            refine lv_aload_n hx hb dX4_readBehindOne_58 rfl (lv_at hl 1 rfl) ?_
            refine lv_iconst (v := 1) hx hb dX4_readBehindOne_59 (by decide +kernel) ?_
            refine pk_v (va_runV (As := [.int 1]) (rest := []) ⟨hx, hb, hml, hown, hts⟩ (s_X4_settle l D t σ I_2 J ri rj rq H.size tg hSH hG.1 this (1 : Int32) hL_this hK_this) (cwV 1 hts (tw_V tw_793 tw_794 tw_795 tw_25 tw_796) rfl rfl rfl cv_yX4_settle_1 ⟨Nat.le_of_ble_eq_true rfl, Nat.le_of_ble_eq_true rfl⟩) ⟨pq_blind, pq_recv hK hP hL_this hK_this (by decide +kernel) rfl, pq_pre hK hN hP hD⟩ rfl rfl hl.1 rfl (lv_room (Nat.le_of_ble_eq_true rfl)) dX4_readBehindOne_60 ⟨Nat.le_of_ble_eq_true rfl, Nat.le_of_ble_eq_true rfl⟩) hD hS hA (fun σ1 μ1 H locs hw_552 hP hD hS => ?_)
            obtain ⟨I_553, ri_554, hu_555, hg_556, hp_558, hp_559, hfn_560, hfr_561⟩ := hw_552
            obtain ⟨hu_555a, hu_555b⟩ := Prod.mk.inj hu_555
            rw [hu_555a, hu_555b] at hP hD
            replace hF := hF.trans (bv_n hfn_560)
            replace hFr := fr_tr hFr hfr_561
            have tt_562 := hp_558
            have tt_563 := hp_559
            have hG := GX.tr hG hg_556 (by decide +kernel)
            have tt_564 : (I_553 129 this).toInt = (I_2 129 this).toInt := by rw [hg_556.2.1 129 (by decide +kernel) (by decide +kernel)]
            have tt_565 : (I_553 197 this_scanner).toInt = (I_2 197 this_scanner).toInt := by rw [hg_556.2.1 197 (by decide +kernel) (by decide +kernel)]
            have tt_566 : (I_553 194 this_scanner).toInt = (I_2 194 this_scanner).toInt := by rw [hg_556.2.1 194 (by decide +kernel) (by decide +kernel)]
            refine lv_aload_n hx hb dX4_readBehindOne_63 rfl (lv_at hl 1 rfl) ?_
            refine lv_dup hx hb dX4_readBehindOne_64 rfl ?_
            refine pg_f (v := .int (I_553 136 this)) (C := RX4) (T := TX4) (N := 12) hx hb hts (tw_i inlX4) hown hK hP hL_this hK_this (by decide +kernel) rfl 8 (by decide +kernel) (hts _ (tw_c tw_760)) rfl dX4_readBehindOne_65 ?_
            replace hF := hF.trans (ap_n (vI_e (f := 136) hO_this (by decide +kernel)))
            refine lv_iconst (v := 1) hx hb dX4_readBehindOne_68 (by decide +kernel) ?_
            refine lv_isub hx hb dX4_readBehindOne_69 ?_
            refine lv_topi (fun x_568 ex_568 => ?_)
            replace hF := hF.trans (ap_n ex_568)
            refine pp_i (v := x_568) (ty := .int) (C := RX4) (T := TX4) (N := 12) hx hb hts (tw_i inlX4) tyX4 tyX4_ok nmX4 hown hK hP hD hS hL_this hK_this (by decide +kernel) rfl 8 136 (by decide +kernel) (hts _ (tw_c tw_760)) rfl (tyX4_ok 8 (by decide +kernel)) rfl rfl (Nat.le_of_ble_eq_true rfl) (ps_136 _ _ _ _ _) dX4_readBehindOne_70 (fun I_569 H locs eI_569 hP hD hS => ?_)
            replace hFr := fr_I (f := 136) hFr hO_this (by decide +kernel) eI_569
            replace hF := hF.trans (ap_n (vI_st (f := 136) hO_this (by decide +kernel) eI_569))
            have hG := GX.wI hG 136 rfl eI_569 (rg_w (rg_full _) (by decide +kernel)) (by decide +kernel)
            have tt_570 : (I_569 132 this).toInt = (I_553 132 this).toInt := by rw [eI_569, pq_uf _ _ _ (by decide +kernel)]
            have tt_571 : (I_569 134 this).toInt = (I_553 134 this).toInt := by rw [eI_569, pq_uf _ _ _ (by decide +kernel)]
            have tt_572 : (I_569 129 this).toInt = (I_553 129 this).toInt := by rw [eI_569, pq_uf _ _ _ (by decide +kernel)]
            have tt_573 : (I_569 197 this_scanner).toInt = (I_553 197 this_scanner).toInt := by rw [eI_569, pq_uf _ _ _ (by decide +kernel)]
            have tt_574 : (I_569 194 this_scanner).toInt = (I_553 194 this_scanner).toInt := by rw [eI_569, pq_uf _ _ _ (by decide +kernel)]
            refine lv_aload_n hx hb dX4_readBehindOne_73 rfl (lv_at hl 1 rfl) ?_
            refine lv_dup hx hb dX4_readBehindOne_74 rfl ?_
            refine pg_f (v := .int (I_569 135 this)) (C := RX4) (T := TX4) (N := 12) hx hb hts (tw_i inlX4) hown hK hP hL_this hK_this (by decide +kernel) rfl 7 (by decide +kernel) (hts _ (tw_c tw_759)) rfl dX4_readBehindOne_75 ?_
            replace hF := hF.trans (ap_n (vI_e (f := 135) hO_this (by decide +kernel)))
            refine lv_iconst (v := 1) hx hb dX4_readBehindOne_78 (by decide +kernel) ?_
            refine lv_isub hx hb dX4_readBehindOne_79 ?_
            refine lv_topi (fun x_576 ex_576 => ?_)
            replace hF := hF.trans (ap_n ex_576)
            refine pp_i (v := x_576) (ty := .int) (C := RX4) (T := TX4) (N := 12) hx hb hts (tw_i inlX4) tyX4 tyX4_ok nmX4 hown hK hP hD hS hL_this hK_this (by decide +kernel) rfl 7 135 (by decide +kernel) (hts _ (tw_c tw_759)) rfl (tyX4_ok 7 (by decide +kernel)) rfl rfl (Nat.le_of_ble_eq_true rfl) (ps_135 _ _ _ _ _) dX4_readBehindOne_80 (fun I_577 H locs eI_577 hP hD hS => ?_)
            replace hFr := fr_I (f := 135) hFr hO_this (by decide +kernel) eI_577
            replace hF := hF.trans (ap_n (vI_st (f := 135) hO_this (by decide +kernel) eI_577))
            have hG := GX.wI hG 135 rfl eI_577 (rg_w (rg_full _) (by decide +kernel)) (by decide +kernel)
            have tt_578 : (I_577 132 this).toInt = (I_569 132 this).toInt := by rw [eI_577, pq_uf _ _ _ (by decide +kernel)]
            have tt_579 : (I_577 134 this).toInt = (I_569 134 this).toInt := by rw [eI_577, pq_uf _ _ _ (by decide +kernel)]
            have tt_580 : (I_577 129 this).toInt = (I_569 129 this).toInt := by rw [eI_577, pq_uf _ _ _ (by decide +kernel)]
            have tt_581 : (I_577 197 this_scanner).toInt = (I_569 197 this_scanner).toInt := by rw [eI_577, pq_uf _ _ _ (by decide +kernel)]
            have tt_582 : (I_577 194 this_scanner).toInt = (I_569 194 this_scanner).toInt := by rw [eI_577, pq_uf _ _ _ (by decide +kernel)]
            refine lv_aload_n hx hb dX4_readBehindOne_83 rfl (lv_at hl 1 rfl) ?_
            refine lv_iconst (v := 0) hx hb dX4_readBehindOne_84 (by decide +kernel) ?_
            refine lv_aload_n hx hb dX4_readBehindOne_85 rfl (lv_at hl 1 rfl) ?_
            refine pg_f (v := .int (I_577 134 this)) (C := RX4) (T := TX4) (N := 12) hx hb hts (tw_i inlX4) hown hK hP hL_this hK_this (by decide +kernel) rfl 6 (by decide +kernel) (hts _ (tw_c tw_758)) rfl dX4_readBehindOne_86 ?_
            have h_583 : rg (I_577 134 this) 0 40 := GX.rI hG 134 rfl
            have uh_583 := h_583.1
            have vh_583 := h_583.2
            replace hF := hF.trans (ap_n (vI_e (f := 134) hO_this (by decide +kernel)))
            refine lv_iconst (v := 1) hx hb dX4_readBehindOne_89 (by decide +kernel) ?_
            refine lv_isub hx hb dX4_readBehindOne_90 ?_
            refine lv_topi (fun x_585 ex_585 => ?_)
            replace hF := hF.trans (ap_n ex_585)
            have h_586 : rg x_585 (-1) 39 := rg_of_eq ex_585 (rg_sub h_583 (rg_k (1 : Int32) 1 rfl) (by decide +kernel))
            have uh_586 := h_586.1
            have vh_586 := h_586.2
            have tx_585 : (x_585).toInt = (I_577 134 this).toInt - 1 := by rw [ex_585]; exact i_sub_rg (a2 := (I_577 134 this).toInt) (b2 := 1) rfl rfl h_583 (rg_k (1 : Int32) 1 rfl) (by decide +kernel)
            refine va_mmax hx hb (hml.trans hl.1.symm) hown (hts _ (tw_c tw_789)) (hts _ (tw_c tw_275)) (hts _ (tw_c tw_276)) (hts _ (tw_c tw_277)) (Nat.le_of_ble_eq_true rfl) (Nat.le_of_ble_eq_true rfl) (Nat.zero_le _) (Nat.zero_le _) dX4_readBehindOne_91 ?_
            refine lv_topi (fun x_587 ex_587 => ?_)
            replace hF := hF.trans (ap_n ex_587)
            have h_588 : rg x_587 0 39 := rg_of_eq ex_587 (rg_max2 (rg_k (0 : Int32) 0 rfl) h_586 (by decide +kernel))
            have uh_588 := h_588.1
            have vh_588 := h_588.2
            have tx_587 : (x_587).toInt = 0 ∨ (x_587).toInt = (x_585).toInt := by rw [ex_587]; exact max_or _ _
            refine pp_i (v := x_587) (ty := .int) (C := RX4) (T := TX4) (N := 12) hx hb hts (tw_i inlX4) tyX4 tyX4_ok nmX4 hown hK hP hD hS hL_this hK_this (by decide +kernel) rfl 6 134 (by decide +kernel) (hts _ (tw_c tw_758)) rfl (tyX4_ok 6 (by decide +kernel)) rfl rfl (Nat.le_of_ble_eq_true rfl) (ps_134 _ _ _ _ _) dX4_readBehindOne_94 (fun I_589 H locs eI_589 hP hD hS => ?_)
            replace hFr := fr_I (f := 134) hFr hO_this (by decide +kernel) eI_589
            replace hF := hF.trans (ap_n (vI_st (f := 134) hO_this (by decide +kernel) eI_589))
            have hG := GX.wI hG 134 rfl eI_589 (rg_w h_588 (by decide +kernel)) (by decide +kernel)
            have tt_590 : (I_589 132 this).toInt = (I_577 132 this).toInt := by rw [eI_589, pq_uf _ _ _ (by decide +kernel)]
            have tt_591 : (I_589 134 this).toInt = (x_587).toInt := by rw [eI_589, pq_us]
            have tt_592 : (I_589 129 this).toInt = (I_577 129 this).toInt := by rw [eI_589, pq_uf _ _ _ (by decide +kernel)]
            have tt_593 : (I_589 197 this_scanner).toInt = (I_577 197 this_scanner).toInt := by rw [eI_589, pq_uf _ _ _ (by decide +kernel)]
            have tt_594 : (I_589 194 this_scanner).toInt = (I_577 194 this_scanner).toInt := by rw [eI_589, pq_uf _ _ _ (by decide +kernel)]
            refine lv_iconst (v := 0) hx hb dX4_readBehindOne_97 (by decide +kernel) ?_
            subst hQ
            exact W.zret (v := 0) hx hb hr (by decide +kernel) (fun t1 ht hW => ⟨⟨0, (σ, I_589, J, ri_554, rj, rq), rfl, ⟨I_589, ri_554, rfl, hG, (by omega), (ft_t (fun _ _ => rfl) hp_559), (hF0.symm.trans hF), hFr, (Or.inr ⟨rfl, trivial⟩)⟩, by rw [ht]; exact hP, va_K.moved hW.alike hK, hD⟩, hS.F ht⟩) hS.2.2 dX4_readBehindOne_98
          · replace hF := hF.trans (if_neg c_545)
            have tc_595 : (I 194 this_scanner).toInt ≠ 30 := fun q => c_545 (Int32.toInt_inj.mp q)
            refine lv_aload_n hx hb dX4_readBehindOne_53 rfl (lv_at hl 1 rfl) ?_
            refine lv_iconst (v := 1) hx hb dX4_readBehindOne_54 (by decide +kernel) ?_
            refine pk_v (va_runV (As := [.int 1]) (rest := []) ⟨hx, hb, hml, hown, hts⟩ (s_X4_refuse l D t σ I_2 J ri rj rq H.size tg hSH hG.1 this (1 : Int32) hL_this hK_this (rg_w (rg_k (1 : Int32) 1 rfl) (by decide +kernel))) (cwV 1 hts (tw_V tw_748 tw_749 tw_750 tw_25 tw_751) rfl rfl rfl cv_yX4_refuse_1 ⟨Nat.le_of_ble_eq_true rfl, Nat.le_of_ble_eq_true rfl⟩) ⟨pq_blind, pq_recv hK hP hL_this hK_this (by decide +kernel) rfl, pq_pre hK hN hP hD⟩ rfl rfl hl.1 rfl (lv_room (Nat.le_of_ble_eq_true rfl)) dX4_readBehindOne_55 ⟨Nat.le_of_ble_eq_true rfl, Nat.le_of_ble_eq_true rfl⟩) hD hS hA (fun σ1 μ1 H locs hw_597 hP hD hS => ?_)
            obtain ⟨I_598, hu_599, hg_600, hp_602, hfn_603, hfr_604⟩ := hw_597
            obtain ⟨hu_599a, hu_599b⟩ := Prod.mk.inj hu_599
            rw [hu_599a, hu_599b] at hP hD
            replace hF := hF.trans (bv_n hfn_603)
            replace hFr := fr_tr hFr hfr_604
            have tt_605 := hp_602
            have hG := GX.tr hG hg_600 (by decide +kernel)
            have tt_606 : (I_598 132 this).toInt = (I_2 132 this).toInt := by rw [hg_600.2.1 132 (by decide +kernel) (by decide +kernel)]
            have tt_607 : (I_598 134 this).toInt = (I_2 134 this).toInt := by rw [hg_600.2.1 134 (by decide +kernel) (by decide +kernel)]
            have tt_608 : (I_598 197 this_scanner).toInt = (I_2 197 this_scanner).toInt := by rw [hg_600.2.1 197 (by decide +kernel) (by decide +kernel)]
            have tt_609 : (I_598 194 this_scanner).toInt = (I_2 194 this_scanner).toInt := by rw [hg_600.2.1 194 (by decide +kernel) (by decide +kernel)]
            refine lv_aload_n hx hb dX4_readBehindOne_58 rfl (lv_at hl 1 rfl) ?_
            refine lv_iconst (v := 1) hx hb dX4_readBehindOne_59 (by decide +kernel) ?_
            refine pk_v (va_runV (As := [.int 1]) (rest := []) ⟨hx, hb, hml, hown, hts⟩ (s_X4_settle l D t σ I_598 J ri rj rq H.size tg hSH hG.1 this (1 : Int32) hL_this hK_this) (cwV 1 hts (tw_V tw_793 tw_794 tw_795 tw_25 tw_796) rfl rfl rfl cv_yX4_settle_1 ⟨Nat.le_of_ble_eq_true rfl, Nat.le_of_ble_eq_true rfl⟩) ⟨pq_blind, pq_recv hK hP hL_this hK_this (by decide +kernel) rfl, pq_pre hK hN hP hD⟩ rfl rfl hl.1 rfl (lv_room (Nat.le_of_ble_eq_true rfl)) dX4_readBehindOne_60 ⟨Nat.le_of_ble_eq_true rfl, Nat.le_of_ble_eq_true rfl⟩) hD hS hA (fun σ1 μ1 H locs hw_611 hP hD hS => ?_)
            obtain ⟨I_612, ri_613, hu_614, hg_615, hp_617, hp_618, hfn_619, hfr_620⟩ := hw_611
            obtain ⟨hu_614a, hu_614b⟩ := Prod.mk.inj hu_614
            rw [hu_614a, hu_614b] at hP hD
            replace hF := hF.trans (bv_n hfn_619)
            replace hFr := fr_tr hFr hfr_620
            have tt_621 := hp_617
            have tt_622 := hp_618
            have hG := GX.tr hG hg_615 (by decide +kernel)
            have tt_623 : (I_612 129 this).toInt = (I_598 129 this).toInt := by rw [hg_615.2.1 129 (by decide +kernel) (by decide +kernel)]
            have tt_624 : (I_612 197 this_scanner).toInt = (I_598 197 this_scanner).toInt := by rw [hg_615.2.1 197 (by decide +kernel) (by decide +kernel)]
            have tt_625 : (I_612 194 this_scanner).toInt = (I_598 194 this_scanner).toInt := by rw [hg_615.2.1 194 (by decide +kernel) (by decide +kernel)]
            refine lv_aload_n hx hb dX4_readBehindOne_63 rfl (lv_at hl 1 rfl) ?_
            refine lv_dup hx hb dX4_readBehindOne_64 rfl ?_
            refine pg_f (v := .int (I_612 136 this)) (C := RX4) (T := TX4) (N := 12) hx hb hts (tw_i inlX4) hown hK hP hL_this hK_this (by decide +kernel) rfl 8 (by decide +kernel) (hts _ (tw_c tw_760)) rfl dX4_readBehindOne_65 ?_
            replace hF := hF.trans (ap_n (vI_e (f := 136) hO_this (by decide +kernel)))
            refine lv_iconst (v := 1) hx hb dX4_readBehindOne_68 (by decide +kernel) ?_
            refine lv_isub hx hb dX4_readBehindOne_69 ?_
            refine lv_topi (fun x_627 ex_627 => ?_)
            replace hF := hF.trans (ap_n ex_627)
            refine pp_i (v := x_627) (ty := .int) (C := RX4) (T := TX4) (N := 12) hx hb hts (tw_i inlX4) tyX4 tyX4_ok nmX4 hown hK hP hD hS hL_this hK_this (by decide +kernel) rfl 8 136 (by decide +kernel) (hts _ (tw_c tw_760)) rfl (tyX4_ok 8 (by decide +kernel)) rfl rfl (Nat.le_of_ble_eq_true rfl) (ps_136 _ _ _ _ _) dX4_readBehindOne_70 (fun I_628 H locs eI_628 hP hD hS => ?_)
            replace hFr := fr_I (f := 136) hFr hO_this (by decide +kernel) eI_628
            replace hF := hF.trans (ap_n (vI_st (f := 136) hO_this (by decide +kernel) eI_628))
            have hG := GX.wI hG 136 rfl eI_628 (rg_w (rg_full _) (by decide +kernel)) (by decide +kernel)
            have tt_629 : (I_628 132 this).toInt = (I_612 132 this).toInt := by rw [eI_628, pq_uf _ _ _ (by decide +kernel)]
            have tt_630 : (I_628 134 this).toInt = (I_612 134 this).toInt := by rw [eI_628, pq_uf _ _ _ (by decide +kernel)]
            have tt_631 : (I_628 129 this).toInt = (I_612 129 this).toInt := by rw [eI_628, pq_uf _ _ _ (by decide +kernel)]
            have tt_632 : (I_628 197 this_scanner).toInt = (I_612 197 this_scanner).toInt := by rw [eI_628, pq_uf _ _ _ (by decide +kernel)]
            have tt_633 : (I_628 194 this_scanner).toInt = (I_612 194 this_scanner).toInt := by rw [eI_628, pq_uf _ _ _ (by decide +kernel)]
            refine lv_aload_n hx hb dX4_readBehindOne_73 rfl (lv_at hl 1 rfl) ?_
            refine lv_dup hx hb dX4_readBehindOne_74 rfl ?_
            refine pg_f (v := .int (I_628 135 this)) (C := RX4) (T := TX4) (N := 12) hx hb hts (tw_i inlX4) hown hK hP hL_this hK_this (by decide +kernel) rfl 7 (by decide +kernel) (hts _ (tw_c tw_759)) rfl dX4_readBehindOne_75 ?_
            replace hF := hF.trans (ap_n (vI_e (f := 135) hO_this (by decide +kernel)))
            refine lv_iconst (v := 1) hx hb dX4_readBehindOne_78 (by decide +kernel) ?_
            refine lv_isub hx hb dX4_readBehindOne_79 ?_
            refine lv_topi (fun x_635 ex_635 => ?_)
            replace hF := hF.trans (ap_n ex_635)
            refine pp_i (v := x_635) (ty := .int) (C := RX4) (T := TX4) (N := 12) hx hb hts (tw_i inlX4) tyX4 tyX4_ok nmX4 hown hK hP hD hS hL_this hK_this (by decide +kernel) rfl 7 135 (by decide +kernel) (hts _ (tw_c tw_759)) rfl (tyX4_ok 7 (by decide +kernel)) rfl rfl (Nat.le_of_ble_eq_true rfl) (ps_135 _ _ _ _ _) dX4_readBehindOne_80 (fun I_636 H locs eI_636 hP hD hS => ?_)
            replace hFr := fr_I (f := 135) hFr hO_this (by decide +kernel) eI_636
            replace hF := hF.trans (ap_n (vI_st (f := 135) hO_this (by decide +kernel) eI_636))
            have hG := GX.wI hG 135 rfl eI_636 (rg_w (rg_full _) (by decide +kernel)) (by decide +kernel)
            have tt_637 : (I_636 132 this).toInt = (I_628 132 this).toInt := by rw [eI_636, pq_uf _ _ _ (by decide +kernel)]
            have tt_638 : (I_636 134 this).toInt = (I_628 134 this).toInt := by rw [eI_636, pq_uf _ _ _ (by decide +kernel)]
            have tt_639 : (I_636 129 this).toInt = (I_628 129 this).toInt := by rw [eI_636, pq_uf _ _ _ (by decide +kernel)]
            have tt_640 : (I_636 197 this_scanner).toInt = (I_628 197 this_scanner).toInt := by rw [eI_636, pq_uf _ _ _ (by decide +kernel)]
            have tt_641 : (I_636 194 this_scanner).toInt = (I_628 194 this_scanner).toInt := by rw [eI_636, pq_uf _ _ _ (by decide +kernel)]
            refine lv_aload_n hx hb dX4_readBehindOne_83 rfl (lv_at hl 1 rfl) ?_
            refine lv_iconst (v := 0) hx hb dX4_readBehindOne_84 (by decide +kernel) ?_
            refine lv_aload_n hx hb dX4_readBehindOne_85 rfl (lv_at hl 1 rfl) ?_
            refine pg_f (v := .int (I_636 134 this)) (C := RX4) (T := TX4) (N := 12) hx hb hts (tw_i inlX4) hown hK hP hL_this hK_this (by decide +kernel) rfl 6 (by decide +kernel) (hts _ (tw_c tw_758)) rfl dX4_readBehindOne_86 ?_
            have h_642 : rg (I_636 134 this) 0 40 := GX.rI hG 134 rfl
            have uh_642 := h_642.1
            have vh_642 := h_642.2
            replace hF := hF.trans (ap_n (vI_e (f := 134) hO_this (by decide +kernel)))
            refine lv_iconst (v := 1) hx hb dX4_readBehindOne_89 (by decide +kernel) ?_
            refine lv_isub hx hb dX4_readBehindOne_90 ?_
            refine lv_topi (fun x_644 ex_644 => ?_)
            replace hF := hF.trans (ap_n ex_644)
            have h_645 : rg x_644 (-1) 39 := rg_of_eq ex_644 (rg_sub h_642 (rg_k (1 : Int32) 1 rfl) (by decide +kernel))
            have uh_645 := h_645.1
            have vh_645 := h_645.2
            have tx_644 : (x_644).toInt = (I_636 134 this).toInt - 1 := by rw [ex_644]; exact i_sub_rg (a2 := (I_636 134 this).toInt) (b2 := 1) rfl rfl h_642 (rg_k (1 : Int32) 1 rfl) (by decide +kernel)
            refine va_mmax hx hb (hml.trans hl.1.symm) hown (hts _ (tw_c tw_789)) (hts _ (tw_c tw_275)) (hts _ (tw_c tw_276)) (hts _ (tw_c tw_277)) (Nat.le_of_ble_eq_true rfl) (Nat.le_of_ble_eq_true rfl) (Nat.zero_le _) (Nat.zero_le _) dX4_readBehindOne_91 ?_
            refine lv_topi (fun x_646 ex_646 => ?_)
            replace hF := hF.trans (ap_n ex_646)
            have h_647 : rg x_646 0 39 := rg_of_eq ex_646 (rg_max2 (rg_k (0 : Int32) 0 rfl) h_645 (by decide +kernel))
            have uh_647 := h_647.1
            have vh_647 := h_647.2
            have tx_646 : (x_646).toInt = 0 ∨ (x_646).toInt = (x_644).toInt := by rw [ex_646]; exact max_or _ _
            refine pp_i (v := x_646) (ty := .int) (C := RX4) (T := TX4) (N := 12) hx hb hts (tw_i inlX4) tyX4 tyX4_ok nmX4 hown hK hP hD hS hL_this hK_this (by decide +kernel) rfl 6 134 (by decide +kernel) (hts _ (tw_c tw_758)) rfl (tyX4_ok 6 (by decide +kernel)) rfl rfl (Nat.le_of_ble_eq_true rfl) (ps_134 _ _ _ _ _) dX4_readBehindOne_94 (fun I_648 H locs eI_648 hP hD hS => ?_)
            replace hFr := fr_I (f := 134) hFr hO_this (by decide +kernel) eI_648
            replace hF := hF.trans (ap_n (vI_st (f := 134) hO_this (by decide +kernel) eI_648))
            have hG := GX.wI hG 134 rfl eI_648 (rg_w h_647 (by decide +kernel)) (by decide +kernel)
            have tt_649 : (I_648 132 this).toInt = (I_636 132 this).toInt := by rw [eI_648, pq_uf _ _ _ (by decide +kernel)]
            have tt_650 : (I_648 134 this).toInt = (x_646).toInt := by rw [eI_648, pq_us]
            have tt_651 : (I_648 129 this).toInt = (I_636 129 this).toInt := by rw [eI_648, pq_uf _ _ _ (by decide +kernel)]
            have tt_652 : (I_648 197 this_scanner).toInt = (I_636 197 this_scanner).toInt := by rw [eI_648, pq_uf _ _ _ (by decide +kernel)]
            have tt_653 : (I_648 194 this_scanner).toInt = (I_636 194 this_scanner).toInt := by rw [eI_648, pq_uf _ _ _ (by decide +kernel)]
            refine lv_iconst (v := 0) hx hb dX4_readBehindOne_97 (by decide +kernel) ?_
            subst hQ
            exact W.zret (v := 0) hx hb hr (by decide +kernel) (fun t1 ht hW => ⟨⟨0, (σ, I_648, J, ri_613, rj, rq), rfl, ⟨I_648, ri_613, rfl, hG, (by omega), (ft_t (fun _ _ => rfl) hp_618), (hF0.symm.trans hF), hFr, (Or.inr ⟨rfl, trivial⟩)⟩, by rw [ht]; exact hP, va_K.moved hW.alike hK, hD⟩, hS.F ht⟩) hS.2.2 dX4_readBehindOne_98
      · replace hF := hF.trans (if_neg c_376)
        have tc_654 : (I 194 this_scanner).toInt ≤ 28 := Int32.le_iff_toInt_le.mp (nlt c_376)
        have h_655 : rg (I 194 this_scanner) 25 28 := rg_le1 (nlt c_376) h_375 (rg_k (28 : Int32) 28 rfl) (by decide +kernel)
        have uh_655 := h_655.1
        have vh_655 := h_655.2
        refine lv_aload_n hx hb dX4_readBehindOne_25 rfl (lv_at hl 1 rfl) ?_
        refine lv_iload_n hx hb dX4_readBehindOne_26 rfl (lv_at hl 0 rfl) ?_
        refine pk_i (va_runS (As := [.int (I 194 this_scanner)]) (rest := [.ref this]) ⟨hx, hb, hml, hown, hts⟩ (s_X4_rank l D t σ I_2 J ri rj rq H.size tg hSH hG.1 (I 194 this_scanner)) (va_cwS 1 hts (tw_S tw_790 tw_791 tw_25 tw_792) rfl rfl rfl cd_yX4_rank_1 ⟨Nat.le_of_ble_eq_true rfl, Nat.le_of_ble_eq_true rfl⟩) ⟨pq_blind, pq_pre hK hN hP hD⟩ rfl rfl hl.1 rfl (lv_room (Nat.le_of_ble_eq_true rfl)) dX4_readBehindOne_27 ⟨Nat.le_of_ble_eq_true rfl, Nat.le_of_ble_eq_true rfl⟩) hD hS hA (fun x_656 σ1 μ1 H locs hw_657 hP hD hS => ?_)
        obtain ⟨hu_658, hfn_661, hr_660⟩ := hw_657
        obtain ⟨hu_658a, hu_658b⟩ := Prod.mk.inj hu_658
        rw [hu_658a, hu_658b] at hP hD
        replace hF := hF.trans (ap_n hfn_661.symm)
        refine pk_v (va_runV (As := [.int x_656]) (rest := []) ⟨hx, hb, hml, hown, hts⟩ (s_X4_settle l D t σ I_2 J ri rj rq H.size tg hSH hG.1 this x_656 hL_this hK_this) (cwV 1 hts (tw_V tw_793 tw_794 tw_795 tw_25 tw_796) rfl rfl rfl cv_yX4_settle_1 ⟨Nat.le_of_ble_eq_true rfl, Nat.le_of_ble_eq_true rfl⟩) ⟨pq_blind, pq_recv hK hP hL_this hK_this (by decide +kernel) rfl, pq_pre hK hN hP hD⟩ rfl rfl hl.1 rfl (lv_room (Nat.le_of_ble_eq_true rfl)) dX4_readBehindOne_30 ⟨Nat.le_of_ble_eq_true rfl, Nat.le_of_ble_eq_true rfl⟩) hD hS hA (fun σ1 μ1 H locs hw_664 hP hD hS => ?_)
        obtain ⟨I_665, ri_666, hu_667, hg_668, hp_670, hp_671, hfn_672, hfr_673⟩ := hw_664
        obtain ⟨hu_667a, hu_667b⟩ := Prod.mk.inj hu_667
        rw [hu_667a, hu_667b] at hP hD
        replace hF := hF.trans (bv_n hfn_672)
        replace hFr := fr_tr hFr hfr_673
        have tt_674 := hp_670
        have tt_675 := hp_671
        have hG := GX.tr hG hg_668 (by decide +kernel)
        have tt_676 : (I_665 129 this).toInt = (I_2 129 this).toInt := by rw [hg_668.2.1 129 (by decide +kernel) (by decide +kernel)]
        have tt_677 : (I_665 197 this_scanner).toInt = (I_2 197 this_scanner).toInt := by rw [hg_668.2.1 197 (by decide +kernel) (by decide +kernel)]
        have tt_678 : (I_665 194 this_scanner).toInt = (I_2 194 this_scanner).toInt := by rw [hg_668.2.1 194 (by decide +kernel) (by decide +kernel)]
        refine lv_aload_n hx hb dX4_readBehindOne_33 rfl (lv_at hl 1 rfl) ?_
        refine lv_iload_n hx hb dX4_readBehindOne_34 rfl (lv_at hl 0 rfl) ?_
        refine pk_v (va_runV (As := [.int (I 194 this_scanner)]) (rest := []) ⟨hx, hb, hml, hown, hts⟩ (s_X4_await l D t σ I_665 J ri_666 rj rq H.size tg hSH hG.1 this (I 194 this_scanner) hL_this hK_this) (cwV 1 hts (tw_V tw_781 tw_782 tw_783 tw_25 tw_784) rfl rfl rfl cv_yX4_await_1 ⟨Nat.le_of_ble_eq_true rfl, Nat.le_of_ble_eq_true rfl⟩) ⟨pq_blind, pq_recv hK hP hL_this hK_this (by decide +kernel) rfl, pq_pre hK hN hP hD⟩ rfl rfl hl.1 rfl (lv_room (Nat.le_of_ble_eq_true rfl)) dX4_readBehindOne_35 ⟨Nat.le_of_ble_eq_true rfl, Nat.le_of_ble_eq_true rfl⟩) hD hS hA (fun σ1 μ1 H locs hw_680 hP hD hS => ?_)
        obtain ⟨I_681, ri_682, hu_683, hg_684, hp_686, hp_687, hfn_688, hfr_689⟩ := hw_680
        obtain ⟨hu_683a, hu_683b⟩ := Prod.mk.inj hu_683
        rw [hu_683a, hu_683b] at hP hD
        replace hF := hF.trans (bv_n hfn_688)
        replace hFr := fr_tr hFr hfr_689
        have tt_690 := hp_686
        have tt_691 := hp_687
        have hG := GX.tr hG hg_684 (by decide +kernel)
        have tt_692 : (I_681 132 this).toInt = (I_665 132 this).toInt := by rw [hg_684.2.1 132 (by decide +kernel) (by decide +kernel)]
        have tt_693 : (I_681 129 this).toInt = (I_665 129 this).toInt := by rw [hg_684.2.1 129 (by decide +kernel) (by decide +kernel)]
        have tt_694 : (I_681 197 this_scanner).toInt = (I_665 197 this_scanner).toInt := by rw [hg_684.2.1 197 (by decide +kernel) (by decide +kernel)]
        have tt_695 : (I_681 194 this_scanner).toInt = (I_665 194 this_scanner).toInt := by rw [hg_684.2.1 194 (by decide +kernel) (by decide +kernel)]
        refine lv_iconst (v := 1) hx hb dX4_readBehindOne_38 (by decide +kernel) ?_
        subst hQ
        exact W.zret (v := 1) hx hb hr (by decide +kernel) (fun t1 ht hW => ⟨⟨1, (σ, I_681, J, ri_682, rj, rq), rfl, ⟨I_681, ri_682, rfl, hG, (by omega), (ft_t (ft_t (fun _ _ => rfl) hp_671) hp_687), (hF0.symm.trans hF), hFr, (Or.inl ⟨rfl, trivial⟩)⟩, by rw [ht]; exact hP, va_K.moved hW.alike hK, hD⟩, hS.F ht⟩) hS.2.2 dX4_readBehindOne_39
  exact go _ _ _ hP hD hS hl

set_option maxRecDepth 100000 in
def g_X4_readEither_L34 (J : Nat → Int64) (rj : Nat → Nat → Int64) (rq : Nat → Nat → Option Nat) : Nat → (Int32) → (Int32) → (Nat → Int32) → (Nat → Nat → Int32) → vM
  | 0, x_1489, x_1490, I_1491, ri_1492 => (I_1491, J, ri_1492, rj, rq)
  | n_1571 + 1, x_1489, x_1490, I_1491, ri_1492 => (if (300 : Int32) < x_1490 then (I_1491, J, ri_1492, rj, rq) else (ap1 (I_1491 129) fun (y_1591 : Int32) => (if (y_1591) = (0 : Int32) then (ap1 (I_1491 139) fun (y_1600 : Int32) => (if (y_1600) = (0 : Int32) then (bnV (g_X6_advance I_1491 J ri_1492 rj rq) fun (I_1612 : Nat → Int32) (_ : Nat → Int64) (_ : Nat → Nat → Int32) (_ : Nat → Nat → Int64) (_ : Nat → Nat → Option Nat) => (if x_1489 = (0 : Int32) then (bnI (g_X4_readBehindOne I_1612 J ri_1492 rj rq) fun (x_1632 : Int32) (I_1634 : Nat → Int32) (_ : Nat → Int64) (ri_1635 : Nat → Nat → Int32) (_ : Nat → Nat → Int64) (_ : Nat → Nat → Option Nat) => (ap1 (x_1490 + Int32.ofInt 1) fun (x_1648 : Int32) => ((g_X4_readEither_L34 J rj rq n_1571) x_1632 x_1648 I_1634 ri_1635))) else (bnI (g_X4_readOne I_1612 J ri_1492 rj rq) fun (x_1652 : Int32) (I_1654 : Nat → Int32) (_ : Nat → Int64) (ri_1655 : Nat → Nat → Int32) (_ : Nat → Nat → Int64) (_ : Nat → Nat → Option Nat) => (ap1 (x_1490 + Int32.ofInt 1) fun (x_1668 : Int32) => ((g_X4_readEither_L34 J rj rq n_1571) x_1652 x_1668 I_1654 ri_1655))))) else (I_1491, J, ri_1492, rj, rq))) else (I_1491, J, ri_1492, rj, rq))))
set_option maxRecDepth 100000 in
theorem g_X4_readEither_L34_e {J : Nat → Int64} {rj : Nat → Nat → Int64} {rq : Nat → Nat → Option Nat} {n_1571 : Nat} {x_1489 : Int32} {x_1490 : Int32} {I_1491 : Nat → Int32} {ri_1492 : Nat → Nat → Int32} : g_X4_readEither_L34 J rj rq (n_1571 + 1) x_1489 x_1490 I_1491 ri_1492 = (if (300 : Int32) < x_1490 then (I_1491, J, ri_1492, rj, rq) else (ap1 (I_1491 129) fun (y_1591 : Int32) => (if (y_1591) = (0 : Int32) then (ap1 (I_1491 139) fun (y_1600 : Int32) => (if (y_1600) = (0 : Int32) then (bnV (g_X6_advance I_1491 J ri_1492 rj rq) fun (I_1612 : Nat → Int32) (_ : Nat → Int64) (_ : Nat → Nat → Int32) (_ : Nat → Nat → Int64) (_ : Nat → Nat → Option Nat) => (if x_1489 = (0 : Int32) then (bnI (g_X4_readBehindOne I_1612 J ri_1492 rj rq) fun (x_1632 : Int32) (I_1634 : Nat → Int32) (_ : Nat → Int64) (ri_1635 : Nat → Nat → Int32) (_ : Nat → Nat → Int64) (_ : Nat → Nat → Option Nat) => (ap1 (x_1490 + Int32.ofInt 1) fun (x_1648 : Int32) => ((g_X4_readEither_L34 J rj rq n_1571) x_1632 x_1648 I_1634 ri_1635))) else (bnI (g_X4_readOne I_1612 J ri_1492 rj rq) fun (x_1652 : Int32) (I_1654 : Nat → Int32) (_ : Nat → Int64) (ri_1655 : Nat → Nat → Int32) (_ : Nat → Nat → Int64) (_ : Nat → Nat → Option Nat) => (ap1 (x_1490 + Int32.ofInt 1) fun (x_1668 : Int32) => ((g_X4_readEither_L34 J rj rq n_1571) x_1652 x_1668 I_1654 ri_1655))))) else (I_1491, J, ri_1492, rj, rq))) else (I_1491, J, ri_1492, rj, rq)))) := rfl
set_option maxRecDepth 100000 in
def g_X4_readEither (I : Nat → Int32) (J : Nat → Int64) (ri : Nat → Nat → Int32) (rj : Nat → Nat → Int64) (rq : Nat → Nat → Option Nat) : vM := (ap1 (va_up I 134 (0 : Int32)) fun (I_1 : Nat → Int32) => (ap1 (va_up I_1 135 (0 : Int32)) fun (I_7 : Nat → Int32) => (ap1 (va_up I_7 136 (0 : Int32)) fun (I_13 : Nat → Int32) => (ap1 (va_up I_13 137 (1 : Int32)) fun (I_19 : Nat → Int32) => (ap1 (va_up I_19 138 (0 : Int32)) fun (I_25 : Nat → Int32) => (ap1 (va_up I_25 139 (0 : Int32)) fun (I_31 : Nat → Int32) => (g_X4_readEither_L34 J rj rq ((301 - ((0 : Int32)).toInt).toNat + 1) (1 : Int32) (0 : Int32) I_31 ri)))))))
set_option maxRecDepth 100000 in
theorem g_X4_readEither_e {I : Nat → Int32} {J : Nat → Int64} {ri : Nat → Nat → Int32} {rj : Nat → Nat → Int64} {rq : Nat → Nat → Option Nat} : g_X4_readEither I J ri rj rq = (ap1 (va_up I 134 (0 : Int32)) fun (I_1 : Nat → Int32) => (ap1 (va_up I_1 135 (0 : Int32)) fun (I_7 : Nat → Int32) => (ap1 (va_up I_7 136 (0 : Int32)) fun (I_13 : Nat → Int32) => (ap1 (va_up I_13 137 (1 : Int32)) fun (I_19 : Nat → Int32) => (ap1 (va_up I_19 138 (0 : Int32)) fun (I_25 : Nat → Int32) => (ap1 (va_up I_25 139 (0 : Int32)) fun (I_31 : Nat → Int32) => (g_X4_readEither_L34 J rj rq ((301 - ((0 : Int32)).toInt).toNat + 1) (1 : Int32) (0 : Int32) I_31 ri))))))) := rfl
set_option maxHeartbeats 4000000 in
set_option maxRecDepth 100000 in
theorem s_X4_readEither (l : Launch) (D : va_G) (t : pq_T) (σ : pq_S) (I : Nat → Nat → Int32) (J : Nat → Nat → Int64) (ri : Nat → Nat → Int32) (rj : Nat → Nat → Int64) (rq : Nat → Nat → Option Nat) (sz : Nat) (aK aV : Nat) (vF : Value) (tg : Nat → Nat) (hSH : SH σ tg) (hG0 : GS tg σ I ri rq) (this : Nat) (hL_this : this ∈ σ.1) (hK_this : σ.2.1 this = 4) (this_scanner : Nat) (hR_this_scanner : σ.2.2.1 128 this = some this_scanner) (hL_this_scanner : this_scanner ∈ σ.1) (hK_this_scanner : σ.2.1 this_scanner = 6) (hca : (I 132 this).toInt ≤ (I 197 this_scanner).toInt) : MetVS aK aV vF l yX4_readEither (wa yX4_readEither cX4_readEither 3 none) ({ frames := 6, cells := 0, slots := 0, locals := 129 }) [.ref this] D t σ (I, J, ri, rj, rq) sz 0 0 (fun (u : pq_S × pq_M) => ∃ I' : Nat → Nat → Int32, ∃ ri' : Nat → Nat → Int32, u = (σ, I', J, ri', rj, rq) ∧ GX [134, 197, 194, 129, 132] tg σ I ri rj I' ri' rj rq ∧ ((I' 132 this).toInt ≤ (I' 197 this_scanner).toInt) ∧ (∀ q, tg q = 258 → ri' q = ri q) ∧ g_X4_readEither (vI 4 σ this I) (vJ 4 σ this J) (vR 4 σ this ri) (vL 4 σ this rj) (vQ 4 σ this rq) = ((vI 4 σ this I'), (vJ 4 σ this J), (vR 4 σ this ri'), (vL 4 σ this rj), (vQ 4 σ this rq)) ∧ FR 4 tg σ this (I, J, ri, rj, rq) (I', J, ri', rj, rq)) := by
  refine Met.ofW (cc := cX4_readEither) (maxL := 3) (ret := none) (by decide +kernel) rfl ?_
  intro p e s m args below meth c s₁ B hml hv
  obtain ⟨rfl, ⟨hsz, hP, hK, hD0, hN⟩, hW0⟩ := hv
  have hx := B.exec
  have hb := B.bytes
  have hr := B.returns
  have hts := atoms_spec (ws := (wa yX4_readEither cX4_readEither 3 none)) B.pre
  have hown : s.vm.findClass RX4 = some m.cls := findClass_of_methodNamed B.named
  have hlocks := B.notSynchronized
  subst hsz
  have hD : va_D (pq_B t σ (I, J, ri, rj, rq) s.heap.size) (pq_P t σ (I, J, ri, rj, rq)) := hD0.self
  generalize hAe : pq_B t σ (I, J, ri, rj, rq) s.heap.size = A at hD hW0 ⊢
  have hA : ∀ q : Nat, s.heap.size ≤ q → A q := fun q h => by rw [← hAe]; exact Or.inr h
  have hS : va_S A s.heap s.heap [] := va_S.rf
  have hG : GX [134, 197, 194, 129, 132] tg σ I ri rj I ri rj rq := ⟨hG0, fun _ _ _ => rfl, fun _ _ _ _ _ => rfl, fun _ _ _ _ _ => rfl⟩
  have hl := lv_entry ([.ref this]) (n := 3) (Nat.le_of_ble_eq_true rfl)
  rw [lg_entry_eq]
  generalize (lg_sl ([.ref this]) ++ List.replicate (3 - (lg_sl ([.ref this])).length) Slot.unset).toArray = ls at hl ⊢
  have hl : lv_has ls 3 [(0, .ref this)] := hl
  refine q_gen (fun Q hQ => ?_)
  have go : ∀ (H : Heap) (locs : List Loc) (ls : Array Slot), va_P D vwCl (pq_P t σ (I, J, ri, rj, rq)) H → va_D A (pq_P t σ (I, J, ri, rj, rq)) → va_S A s.heap H locs → lv_has ls 3 [(0, .ref this)] → W p l e ({ frames := 6, cells := 0, slots := 0, locals := 129 } : Room) s m (List.toArray ([.ref this] : List Value)) below meth c H locs 0 0 Q (F0 m 0 ls []) := by
    intro H locs ls hP hD hS hl
    have hO_this : this = vo σ 4 this := rfl
    have hVT : VT 4 σ tg this := vt_4 hSH hL_this hK_this
    have hFr : FR 4 tg σ this (I, J, ri, rj, rq) (I, J, ri, rj, rq) := fr_rf
    have hO_this_scanner : this_scanner = vo σ 6 this := vo_k (c := 4) hO_this hR_this_scanner
    obtain ⟨F, hF0⟩ : ∃ F, F = g_X4_readEither (vI 4 σ this I) (vJ 4 σ this J) (vR 4 σ this ri) (vL 4 σ this rj) (vQ 4 σ this rq) := ⟨_, rfl⟩
    have hF := hF0.trans g_X4_readEither_e
    refine lv_aload_n hx hb dX4_readEither_0 rfl (lv_at hl 0 rfl) ?_
    refine lv_iconst (v := 0) hx hb dX4_readEither_1 (by decide +kernel) ?_
    refine pp_i (v := 0) (ty := .int) (C := RX4) (T := TX4) (N := 12) hx hb hts (tw_i inlX4) tyX4 tyX4_ok nmX4 hown hK hP hD hS hL_this hK_this (by decide +kernel) rfl 6 134 (by decide +kernel) (hts _ (tw_c tw_758)) rfl (tyX4_ok 6 (by decide +kernel)) rfl rfl (Nat.le_of_ble_eq_true rfl) (ps_134 _ _ _ _ _) dX4_readEither_2 (fun I_1 H locs eI_1 hP hD hS => ?_)
    replace hFr := fr_I (f := 134) hFr hO_this (by decide +kernel) eI_1
    replace hF := hF.trans (ap_n (vI_st (f := 134) hO_this (by decide +kernel) eI_1))
    have hG := GX.wI hG 134 rfl eI_1 (rg_w (rg_k (0 : Int32) 0 rfl) (by decide +kernel)) (by decide +kernel)
    have tt_2 : (I_1 132 this).toInt = (I 132 this).toInt := by rw [eI_1, pq_uf _ _ _ (by decide +kernel)]
    have tt_3 : (I_1 134 this).toInt = 0 := by rw [eI_1, pq_us]; rfl
    have tt_4 : (I_1 129 this).toInt = (I 129 this).toInt := by rw [eI_1, pq_uf _ _ _ (by decide +kernel)]
    have tt_5 : (I_1 197 this_scanner).toInt = (I 197 this_scanner).toInt := by rw [eI_1, pq_uf _ _ _ (by decide +kernel)]
    have tt_6 : (I_1 194 this_scanner).toInt = (I 194 this_scanner).toInt := by rw [eI_1, pq_uf _ _ _ (by decide +kernel)]
    refine lv_aload_n hx hb dX4_readEither_5 rfl (lv_at hl 0 rfl) ?_
    refine lv_iconst (v := 0) hx hb dX4_readEither_6 (by decide +kernel) ?_
    refine pp_i (v := 0) (ty := .int) (C := RX4) (T := TX4) (N := 12) hx hb hts (tw_i inlX4) tyX4 tyX4_ok nmX4 hown hK hP hD hS hL_this hK_this (by decide +kernel) rfl 7 135 (by decide +kernel) (hts _ (tw_c tw_759)) rfl (tyX4_ok 7 (by decide +kernel)) rfl rfl (Nat.le_of_ble_eq_true rfl) (ps_135 _ _ _ _ _) dX4_readEither_7 (fun I_7 H locs eI_7 hP hD hS => ?_)
    replace hFr := fr_I (f := 135) hFr hO_this (by decide +kernel) eI_7
    replace hF := hF.trans (ap_n (vI_st (f := 135) hO_this (by decide +kernel) eI_7))
    have hG := GX.wI hG 135 rfl eI_7 (rg_w (rg_k (0 : Int32) 0 rfl) (by decide +kernel)) (by decide +kernel)
    have tt_8 : (I_7 132 this).toInt = (I_1 132 this).toInt := by rw [eI_7, pq_uf _ _ _ (by decide +kernel)]
    have tt_9 : (I_7 134 this).toInt = (I_1 134 this).toInt := by rw [eI_7, pq_uf _ _ _ (by decide +kernel)]
    have tt_10 : (I_7 129 this).toInt = (I_1 129 this).toInt := by rw [eI_7, pq_uf _ _ _ (by decide +kernel)]
    have tt_11 : (I_7 197 this_scanner).toInt = (I_1 197 this_scanner).toInt := by rw [eI_7, pq_uf _ _ _ (by decide +kernel)]
    have tt_12 : (I_7 194 this_scanner).toInt = (I_1 194 this_scanner).toInt := by rw [eI_7, pq_uf _ _ _ (by decide +kernel)]
    refine lv_aload_n hx hb dX4_readEither_10 rfl (lv_at hl 0 rfl) ?_
    refine lv_iconst (v := 0) hx hb dX4_readEither_11 (by decide +kernel) ?_
    refine pp_i (v := 0) (ty := .int) (C := RX4) (T := TX4) (N := 12) hx hb hts (tw_i inlX4) tyX4 tyX4_ok nmX4 hown hK hP hD hS hL_this hK_this (by decide +kernel) rfl 8 136 (by decide +kernel) (hts _ (tw_c tw_760)) rfl (tyX4_ok 8 (by decide +kernel)) rfl rfl (Nat.le_of_ble_eq_true rfl) (ps_136 _ _ _ _ _) dX4_readEither_12 (fun I_13 H locs eI_13 hP hD hS => ?_)
    replace hFr := fr_I (f := 136) hFr hO_this (by decide +kernel) eI_13
    replace hF := hF.trans (ap_n (vI_st (f := 136) hO_this (by decide +kernel) eI_13))
    have hG := GX.wI hG 136 rfl eI_13 (rg_w (rg_k (0 : Int32) 0 rfl) (by decide +kernel)) (by decide +kernel)
    have tt_14 : (I_13 132 this).toInt = (I_7 132 this).toInt := by rw [eI_13, pq_uf _ _ _ (by decide +kernel)]
    have tt_15 : (I_13 134 this).toInt = (I_7 134 this).toInt := by rw [eI_13, pq_uf _ _ _ (by decide +kernel)]
    have tt_16 : (I_13 129 this).toInt = (I_7 129 this).toInt := by rw [eI_13, pq_uf _ _ _ (by decide +kernel)]
    have tt_17 : (I_13 197 this_scanner).toInt = (I_7 197 this_scanner).toInt := by rw [eI_13, pq_uf _ _ _ (by decide +kernel)]
    have tt_18 : (I_13 194 this_scanner).toInt = (I_7 194 this_scanner).toInt := by rw [eI_13, pq_uf _ _ _ (by decide +kernel)]
    refine lv_aload_n hx hb dX4_readEither_15 rfl (lv_at hl 0 rfl) ?_
    refine lv_iconst (v := 1) hx hb dX4_readEither_16 (by decide +kernel) ?_
    refine pp_i (v := 1) (ty := .boolean) (C := RX4) (T := TX4) (N := 12) hx hb hts (tw_i inlX4) tyX4 tyX4_ok nmX4 hown hK hP hD hS hL_this hK_this (by decide +kernel) rfl 9 137 (by decide +kernel) (hts _ (tw_c tw_761)) rfl (tyX4_ok 9 (by decide +kernel)) rfl (by decide +kernel) (Nat.le_of_ble_eq_true rfl) (ps_137 _ _ _ _ _) dX4_readEither_17 (fun I_19 H locs eI_19 hP hD hS => ?_)
    replace hFr := fr_I (f := 137) hFr hO_this (by decide +kernel) eI_19
    replace hF := hF.trans (ap_n (vI_st (f := 137) hO_this (by decide +kernel) eI_19))
    have hG := GX.wI hG 137 rfl eI_19 (rg_w (rg_k (1 : Int32) 1 rfl) (by decide +kernel)) (by decide +kernel)
    have tt_20 : (I_19 132 this).toInt = (I_13 132 this).toInt := by rw [eI_19, pq_uf _ _ _ (by decide +kernel)]
    have tt_21 : (I_19 134 this).toInt = (I_13 134 this).toInt := by rw [eI_19, pq_uf _ _ _ (by decide +kernel)]
    have tt_22 : (I_19 129 this).toInt = (I_13 129 this).toInt := by rw [eI_19, pq_uf _ _ _ (by decide +kernel)]
    have tt_23 : (I_19 197 this_scanner).toInt = (I_13 197 this_scanner).toInt := by rw [eI_19, pq_uf _ _ _ (by decide +kernel)]
    have tt_24 : (I_19 194 this_scanner).toInt = (I_13 194 this_scanner).toInt := by rw [eI_19, pq_uf _ _ _ (by decide +kernel)]
    refine lv_aload_n hx hb dX4_readEither_20 rfl (lv_at hl 0 rfl) ?_
    refine lv_iconst (v := 0) hx hb dX4_readEither_21 (by decide +kernel) ?_
    refine pp_i (v := 0) (ty := .boolean) (C := RX4) (T := TX4) (N := 12) hx hb hts (tw_i inlX4) tyX4 tyX4_ok nmX4 hown hK hP hD hS hL_this hK_this (by decide +kernel) rfl 10 138 (by decide +kernel) (hts _ (tw_c tw_762)) rfl (tyX4_ok 10 (by decide +kernel)) rfl (by decide +kernel) (Nat.le_of_ble_eq_true rfl) (ps_138 _ _ _ _ _) dX4_readEither_22 (fun I_25 H locs eI_25 hP hD hS => ?_)
    replace hFr := fr_I (f := 138) hFr hO_this (by decide +kernel) eI_25
    replace hF := hF.trans (ap_n (vI_st (f := 138) hO_this (by decide +kernel) eI_25))
    have hG := GX.wI hG 138 rfl eI_25 (rg_w (rg_k (0 : Int32) 0 rfl) (by decide +kernel)) (by decide +kernel)
    have tt_26 : (I_25 132 this).toInt = (I_19 132 this).toInt := by rw [eI_25, pq_uf _ _ _ (by decide +kernel)]
    have tt_27 : (I_25 134 this).toInt = (I_19 134 this).toInt := by rw [eI_25, pq_uf _ _ _ (by decide +kernel)]
    have tt_28 : (I_25 129 this).toInt = (I_19 129 this).toInt := by rw [eI_25, pq_uf _ _ _ (by decide +kernel)]
    have tt_29 : (I_25 197 this_scanner).toInt = (I_19 197 this_scanner).toInt := by rw [eI_25, pq_uf _ _ _ (by decide +kernel)]
    have tt_30 : (I_25 194 this_scanner).toInt = (I_19 194 this_scanner).toInt := by rw [eI_25, pq_uf _ _ _ (by decide +kernel)]
    refine lv_aload_n hx hb dX4_readEither_25 rfl (lv_at hl 0 rfl) ?_
    refine lv_iconst (v := 0) hx hb dX4_readEither_26 (by decide +kernel) ?_
    refine pp_i (v := 0) (ty := .boolean) (C := RX4) (T := TX4) (N := 12) hx hb hts (tw_i inlX4) tyX4 tyX4_ok nmX4 hown hK hP hD hS hL_this hK_this (by decide +kernel) rfl 11 139 (by decide +kernel) (hts _ (tw_c tw_763)) rfl (tyX4_ok 11 (by decide +kernel)) rfl (by decide +kernel) (Nat.le_of_ble_eq_true rfl) (ps_139 _ _ _ _ _) dX4_readEither_27 (fun I_31 H locs eI_31 hP hD hS => ?_)
    replace hFr := fr_I (f := 139) hFr hO_this (by decide +kernel) eI_31
    replace hF := hF.trans (ap_n (vI_st (f := 139) hO_this (by decide +kernel) eI_31))
    have hG := GX.wI hG 139 rfl eI_31 (rg_w (rg_k (0 : Int32) 0 rfl) (by decide +kernel)) (by decide +kernel)
    have tt_32 : (I_31 132 this).toInt = (I_25 132 this).toInt := by rw [eI_31, pq_uf _ _ _ (by decide +kernel)]
    have tt_33 : (I_31 134 this).toInt = (I_25 134 this).toInt := by rw [eI_31, pq_uf _ _ _ (by decide +kernel)]
    have tt_34 : (I_31 129 this).toInt = (I_25 129 this).toInt := by rw [eI_31, pq_uf _ _ _ (by decide +kernel)]
    have tt_35 : (I_31 197 this_scanner).toInt = (I_25 197 this_scanner).toInt := by rw [eI_31, pq_uf _ _ _ (by decide +kernel)]
    have tt_36 : (I_31 194 this_scanner).toInt = (I_25 194 this_scanner).toInt := by rw [eI_31, pq_uf _ _ _ (by decide +kernel)]
    refine lv_iconst (v := 1) hx hb dX4_readEither_30 (by decide +kernel) ?_
    refine lv_istore_n (lv' := [(1, .int 1), (0, .ref this)]) hx hb dX4_readEither_31 rfl hl (by decide +kernel) rfl (fun ls hl => ?_)
    refine lv_iconst (v := 0) hx hb dX4_readEither_32 (by decide +kernel) ?_
    refine lv_istore_n (lv' := [(2, .int 0), (1, .int 1), (0, .ref this)]) hx hb dX4_readEither_33 rfl hl (by decide +kernel) rfl (fun ls hl => ?_)
    have L_1572 : ∀ (n_1571 : Nat) (x_1489 : Int32) (x_1490 : Int32) (I_1491 : Nat → Nat → Int32) (ri_1492 : Nat → Nat → Int32) (H : Heap) (locs : List Loc) (ls : Array Slot), rg x_1489 0 1 → rg x_1490 0 301 → ((I_1491 132 this).toInt + (I_1491 134 this).toInt ≤ (I_1491 197 this_scanner).toInt) → (∀ q, tg q = 258 → ri_1492 q = ri q) → (301 - (x_1490).toInt).toNat < n_1571 → F = g_X4_readEither_L34 (vJ 4 σ this J) (vL 4 σ this rj) (vQ 4 σ this rq) n_1571 x_1489 x_1490 (vI 4 σ this I_1491) (vR 4 σ this ri_1492) → FR 4 tg σ this (I, J, ri, rj, rq) (I_1491, J, ri_1492, rj, rq) → GX [134, 197, 194, 129, 132] tg σ I ri rj I_1491 ri_1492 rj rq → va_P D vwCl (pq_P t σ (I_1491, J, ri_1492, rj, rq)) H → va_D A (pq_P t σ (I_1491, J, ri_1492, rj, rq)) → va_S A s.heap H locs → lv_has ls 3 [(0, .ref this), (1, .int x_1489), (2, .int x_1490)] → W p l e ({ frames := 6, cells := 0, slots := 0, locals := 129 } : Room) s m (List.toArray ([.ref this] : List Value)) below meth c H locs 0 0 Q (F0 m 34 ls []) := by
      intro n_1571
      induction n_1571 with
      | zero => intro x_1489 x_1490 I_1491 ri_1492 H locs ls h_1578 h_1579 hrel_1580 hrel_1581 hm_1570 hF hFr hG hP hD hS hl; exact absurd hm_1570 (Nat.not_lt_zero _)
      | succ n_1571 ih_1573 =>
        intro x_1489 x_1490 I_1491 ri_1492 H locs ls h_1578 h_1579 hrel_1580 hrel_1581 hm_1570 hF hFr hG hP hD hS hl
        have uh_1578 := h_1578.1
        have vh_1578 := h_1578.2
        have uh_1579 := h_1579.1
        have vh_1579 := h_1579.2
        replace hF := hF.trans g_X4_readEither_L34_e
        refine lv_iload_n hx hb dX4_readEither_34 rfl (lv_at hl 2 rfl) ?_
        refine lv_sipush (v := 300) hx hb dX4_readEither_35 (by decide +kernel) ?_
        refine lv_icmp_gt (tgt := 84) hx hb dX4_readEither_38 (by decide +kernel) (fun c_1582 => ?_) (fun c_1582 => ?_)
        · replace hF := hF.trans (if_pos c_1582)
          have tc_1587 : 300 < (x_1490).toInt := Int32.lt_iff_toInt_lt.mp c_1582
          have h_1588 : rg x_1490 301 301 := rg_lt2 c_1582 (rg_k (300 : Int32) 300 rfl) h_1579 (by decide +kernel)
          have uh_1588 := h_1588.1
          have vh_1588 := h_1588.2
          subst hQ
          exact W.vret hx hb hr (fun t1 ht hW => ⟨⟨(σ, I_1491, J, ri_1492, rj, rq), rfl, ⟨I_1491, ri_1492, rfl, hG, (by have z0 := (GX.rI hG 134 (a := this) (lo := 0) (hi := 40) rfl).1; omega), hrel_1581, (hF0.symm.trans hF), hFr⟩, by rw [ht]; exact hP, va_K.moved hW.alike hK, hD⟩, hS.F ht⟩) hS.2.2 dX4_readEither_84
        · replace hF := hF.trans (if_neg c_1582)
          have tc_1589 : (x_1490).toInt ≤ 300 := Int32.le_iff_toInt_le.mp (nlt c_1582)
          have h_1590 : rg x_1490 0 300 := rg_le1 (nlt c_1582) h_1579 (rg_k (300 : Int32) 300 rfl) (by decide +kernel)
          have uh_1590 := h_1590.1
          have vh_1590 := h_1590.2
          refine lv_aload_n hx hb dX4_readEither_41 rfl (lv_at hl 0 rfl) ?_
          refine pg_f (v := .int (I_1491 129 this)) (C := RX4) (T := TX4) (N := 12) hx hb hts (tw_i inlX4) hown hK hP hL_this hK_this (by decide +kernel) rfl 1 (by decide +kernel) (hts _ (tw_c tw_155)) rfl dX4_readEither_42 ?_
          replace hF := hF.trans (ap_n (vI_e (f := 129) hO_this (by decide +kernel)))
          refine lv_if_ne (tgt := 84) hx hb dX4_readEither_45 (by decide +kernel) (fun c_1592 => ?_) (fun c_1592 => ?_)
          · replace hF := hF.trans (if_neg c_1592)
            have tc_1596 : (I_1491 129 this).toInt ≠ 0 := fun q => c_1592 (Int32.toInt_inj.mp q)
            subst hQ
            exact W.vret hx hb hr (fun t1 ht hW => ⟨⟨(σ, I_1491, J, ri_1492, rj, rq), rfl, ⟨I_1491, ri_1492, rfl, hG, (by have z0 := (GX.rI hG 134 (a := this) (lo := 0) (hi := 40) rfl).1; omega), hrel_1581, (hF0.symm.trans hF), hFr⟩, by rw [ht]; exact hP, va_K.moved hW.alike hK, hD⟩, hS.F ht⟩) hS.2.2 dX4_readEither_84
          · replace hF := hF.trans (if_pos c_1592)
            have tc_1597 : (I_1491 129 this).toInt = 0 := congrArg Int32.toInt c_1592
            have h_1598 : rg (I_1491 129 this) 0 0 := rg_and (rg_full _) (rg_of_eq c_1592 (rg_k (0 : Int32) 0 rfl)) (by decide +kernel)
            have uh_1598 := h_1598.1
            have vh_1598 := h_1598.2
            refine lv_aload_n hx hb dX4_readEither_48 rfl (lv_at hl 0 rfl) ?_
            refine pg_f (v := .int (I_1491 139 this)) (C := RX4) (T := TX4) (N := 12) hx hb hts (tw_i inlX4) hown hK hP hL_this hK_this (by decide +kernel) rfl 11 (by decide +kernel) (hts _ (tw_c tw_763)) rfl dX4_readEither_49 ?_
            have h_1599 : rg (I_1491 139 this) 0 1 := GX.rI hG 139 rfl
            have uh_1599 := h_1599.1
            have vh_1599 := h_1599.2
            replace hF := hF.trans (ap_n (vI_e (f := 139) hO_this (by decide +kernel)))
            refine lv_if_ne (tgt := 84) hx hb dX4_readEither_52 (by decide +kernel) (fun c_1601 => ?_) (fun c_1601 => ?_)
            · replace hF := hF.trans (if_neg c_1601)
              have tc_1606 : (I_1491 139 this).toInt ≠ 0 := fun q => c_1601 (Int32.toInt_inj.mp q)
              have h_1607 : rg (I_1491 139 this) 1 1 := rg_ne c_1601 h_1599 0 rfl (by decide +kernel)
              have uh_1607 := h_1607.1
              have vh_1607 := h_1607.2
              subst hQ
              exact W.vret hx hb hr (fun t1 ht hW => ⟨⟨(σ, I_1491, J, ri_1492, rj, rq), rfl, ⟨I_1491, ri_1492, rfl, hG, (by have z0 := (GX.rI hG 134 (a := this) (lo := 0) (hi := 40) rfl).1; omega), hrel_1581, (hF0.symm.trans hF), hFr⟩, by rw [ht]; exact hP, va_K.moved hW.alike hK, hD⟩, hS.F ht⟩) hS.2.2 dX4_readEither_84
            · replace hF := hF.trans (if_pos c_1601)
              have tc_1608 : (I_1491 139 this).toInt = 0 := congrArg Int32.toInt c_1601
              have h_1609 : rg (I_1491 139 this) 0 0 := rg_and h_1599 (rg_of_eq c_1601 (rg_k (0 : Int32) 0 rfl)) (by decide +kernel)
              have uh_1609 := h_1609.1
              have vh_1609 := h_1609.2
              refine lv_aload_n hx hb dX4_readEither_55 rfl (lv_at hl 0 rfl) ?_
              refine pg_f (v := .ref this_scanner) (C := RX4) (T := TX4) (N := 12) hx hb hts (tw_i inlX4) hown hK hP hL_this hK_this (by decide +kernel) rfl 0 (by decide +kernel) (hts _ (tw_c tw_154)) (pq_hv rfl hR_this_scanner) dX4_readEither_56 ?_
              refine pk_v (va_runV (As := []) (rest := []) ⟨hx, hb, hml, hown, hts⟩ (s_X6_advance l D t σ I_1491 J ri_1492 rj rq H.size aK aV vF tg hSH hG.1 this_scanner hL_this_scanner hK_this_scanner this hL_this hK_this hO_this_scanner) (cwV 0 hts (tw_V tw_663 tw_664 tw_665 tw_153 tw_666) rfl rfl rfl cv_yX6_advance_0 ⟨Nat.le_of_ble_eq_true rfl, Nat.le_of_ble_eq_true rfl⟩) ⟨pq_blindS, pq_recv hK hP hL_this_scanner hK_this_scanner (by decide +kernel) rfl, pq_preS hK hN hP hD hS hA hW0⟩ rfl rfl hl.1 rfl (lv_room (Nat.le_of_ble_eq_true rfl)) dX4_readEither_59 ⟨Nat.le_of_ble_eq_true rfl, Nat.le_of_ble_eq_true rfl⟩) hD hS hA (fun σ1 μ1 H locs hw_1611 hP hD hS => ?_)
              obtain ⟨I_1612, hu_1613, hg_1614, hp_1616, hp_1617, hfn_1618, hfr_1619⟩ := hw_1611
              obtain ⟨hu_1613a, hu_1613b⟩ := Prod.mk.inj hu_1613
              rw [hu_1613a, hu_1613b] at hP hD
              replace hF := hF.trans (bv_n hfn_1618)
              replace hFr := fr_tr hFr hfr_1619
              have tt_1620 := hp_1616
              have tt_1621 := hp_1617
              have hG := GX.tr hG hg_1614 (by decide +kernel)
              have tt_1622 : (I_1612 132 this).toInt = (I_1491 132 this).toInt := by rw [hg_1614.2.1 132 (by decide +kernel) (by decide +kernel)]
              have tt_1623 : (I_1612 134 this).toInt = (I_1491 134 this).toInt := by rw [hg_1614.2.1 134 (by decide +kernel) (by decide +kernel)]
              have tt_1624 : (I_1612 129 this).toInt = (I_1491 129 this).toInt := by rw [hg_1614.2.1 129 (by decide +kernel) (by decide +kernel)]
              refine lv_iload_n hx hb dX4_readEither_62 rfl (lv_at hl 1 rfl) ?_
              refine lv_if_eq (tgt := 73) hx hb dX4_readEither_63 (by decide +kernel) (fun c_1625 => ?_) (fun c_1625 => ?_)
              · replace hF := hF.trans (if_pos c_1625)
                have tc_1630 : (x_1489).toInt = 0 := congrArg Int32.toInt c_1625
                have h_1631 : rg x_1489 0 0 := rg_and h_1578 (rg_of_eq c_1625 (rg_k (0 : Int32) 0 rfl)) (by decide +kernel)
                have uh_1631 := h_1631.1
                have vh_1631 := h_1631.2
                refine lv_aload_n hx hb dX4_readEither_73 rfl (lv_at hl 0 rfl) ?_
                refine pk_i (va_runV (As := []) (rest := []) ⟨hx, hb, hml, hown, hts⟩ (s_X4_readBehindOne l D t σ I_1612 J ri_1492 rj rq H.size tg hSH hG.1 this hL_this hK_this this_scanner hR_this_scanner hL_this_scanner hK_this_scanner) (cwV 0 hts (tw_V tw_785 tw_786 tw_787 tw_25 tw_788) rfl rfl rfl cv_yX4_readBehindOne_0 ⟨Nat.le_of_ble_eq_true rfl, Nat.le_of_ble_eq_true rfl⟩) ⟨pq_blind, pq_recv hK hP hL_this hK_this (by decide +kernel) rfl, pq_pre hK hN hP hD⟩ rfl rfl hl.1 rfl (lv_room (Nat.le_of_ble_eq_true rfl)) dX4_readEither_74 ⟨Nat.le_of_ble_eq_true rfl, Nat.le_of_ble_eq_true rfl⟩) hD hS hA (fun x_1632 σ1 μ1 H locs hw_1633 hP hD hS => ?_)
                obtain ⟨I_1634, ri_1635, hu_1636, hg_1637, hp_1639, hp_1640, hfn_1641, hfr_1642, hr_1638⟩ := hw_1633
                obtain ⟨hu_1636a, hu_1636b⟩ := Prod.mk.inj hu_1636
                rw [hu_1636a, hu_1636b] at hP hD
                replace hF := hF.trans (bn_n hfn_1641)
                replace hFr := fr_tr hFr hfr_1642
                have tt_1643 := hp_1639
                have tt_1644 := hp_1640
                have hG := GX.tr hG hg_1637 (by decide +kernel)
                have tt_1645 : (I_1634 197 this_scanner).toInt = (I_1612 197 this_scanner).toInt := by rw [hg_1637.2.1 197 (by decide +kernel) (by decide +kernel)]
                have tt_1646 : (I_1634 194 this_scanner).toInt = (I_1612 194 this_scanner).toInt := by rw [hg_1637.2.1 194 (by decide +kernel) (by decide +kernel)]
                have h_1647 : rg x_1632 0 1 := by rcases hr_1638 with ⟨q, -⟩ | ⟨q, -⟩ <;> rw [q] <;> exact ⟨by decide +kernel, by decide +kernel⟩
                have uh_1647 := h_1647.1
                have vh_1647 := h_1647.2
                refine lv_istore_n (lv' := [(1, .int x_1632), (0, .ref this), (2, .int x_1490)]) hx hb dX4_readEither_77 rfl hl (by decide +kernel) rfl (fun ls hl => ?_)
                obtain ⟨x_1648, ex_1648⟩ : ∃ y : Int32, y = x_1490 + Int32.ofInt 1 := ⟨_, rfl⟩
                replace hF := hF.trans (ap_n ex_1648)
                have h_1649 : rg x_1648 1 301 := rg_of_eq ex_1648 (rg_add h_1590 (rg_k (Int32.ofInt 1) 1 rfl) (by decide +kernel))
                have uh_1649 := h_1649.1
                have vh_1649 := h_1649.2
                have tx_1648 : (x_1648).toInt = (x_1490).toInt + 1 := by rw [ex_1648]; exact i_add_rg (a2 := (x_1490).toInt) (b2 := 1) rfl rfl h_1590 (rg_k (Int32.ofInt 1) 1 rfl) (by decide +kernel)
                refine lv_iinc (v := x_1648) (lv' := [(2, .int x_1648), (1, .int x_1632), (0, .ref this)]) hx hb dX4_readEither_78 hl (k := 2) rfl ex_1648.symm (by decide +kernel) rfl (fun ls hl => ?_)
                refine lv_goto (tgt := 34) hx hb dX4_readEither_81 (by decide +kernel) ?_
                exact ih_1573 x_1632 x_1648 I_1634 ri_1635 _ _ _ (rg_w h_1647 (by decide +kernel)) (rg_w h_1649 (by decide +kernel)) (by omega) (ft_t hrel_1581 hp_1640) (ms_up 1 hm_1570 ex_1648 rfl (by decide +kernel) h_1590 (by decide +kernel) (by decide +kernel)) hF hFr hG hP hD hS (lv_sub hl [2, 1, 0] rfl)
              · replace hF := hF.trans (if_neg c_1625)
                have tc_1650 : (x_1489).toInt ≠ 0 := fun q => c_1625 (Int32.toInt_inj.mp q)
                have h_1651 : rg x_1489 1 1 := rg_ne c_1625 h_1578 0 rfl (by decide +kernel)
                have uh_1651 := h_1651.1
                have vh_1651 := h_1651.2
                refine lv_aload_n hx hb dX4_readEither_66 rfl (lv_at hl 0 rfl) ?_
                refine pk_i (va_runV (As := []) (rest := []) ⟨hx, hb, hml, hown, hts⟩ (s_X4_readOne l D t σ I_1612 J ri_1492 rj rq H.size tg hSH hG.1 this hL_this hK_this this_scanner hR_this_scanner hL_this_scanner hK_this_scanner) (cwV 0 hts (tw_V tw_764 tw_765 tw_766 tw_25 tw_767) rfl rfl rfl cv_yX4_readOne_0 ⟨Nat.le_of_ble_eq_true rfl, Nat.le_of_ble_eq_true rfl⟩) ⟨pq_blind, pq_recv hK hP hL_this hK_this (by decide +kernel) rfl, pq_pre hK hN hP hD⟩ rfl rfl hl.1 rfl (lv_room (Nat.le_of_ble_eq_true rfl)) dX4_readEither_67 ⟨Nat.le_of_ble_eq_true rfl, Nat.le_of_ble_eq_true rfl⟩) hD hS hA (fun x_1652 σ1 μ1 H locs hw_1653 hP hD hS => ?_)
                obtain ⟨I_1654, ri_1655, hu_1656, hg_1657, hp_1659, hp_1660, hfn_1661, hfr_1662, hr_1658⟩ := hw_1653
                obtain ⟨hu_1656a, hu_1656b⟩ := Prod.mk.inj hu_1656
                rw [hu_1656a, hu_1656b] at hP hD
                replace hF := hF.trans (bn_n hfn_1661)
                replace hFr := fr_tr hFr hfr_1662
                have tt_1663 := hp_1659
                have tt_1664 := hp_1660
                have hG := GX.tr hG hg_1657 (by decide +kernel)
                have tt_1665 : (I_1654 197 this_scanner).toInt = (I_1612 197 this_scanner).toInt := by rw [hg_1657.2.1 197 (by decide +kernel) (by decide +kernel)]
                have tt_1666 : (I_1654 194 this_scanner).toInt = (I_1612 194 this_scanner).toInt := by rw [hg_1657.2.1 194 (by decide +kernel) (by decide +kernel)]
                have h_1667 : rg x_1652 0 1 := by rcases hr_1658 with ⟨q, -⟩ | ⟨q, -⟩ <;> rw [q] <;> exact ⟨by decide +kernel, by decide +kernel⟩
                have uh_1667 := h_1667.1
                have vh_1667 := h_1667.2
                refine lv_goto (tgt := 77) hx hb dX4_readEither_70 (by decide +kernel) ?_
                refine lv_istore_n (lv' := [(1, .int x_1652), (0, .ref this), (2, .int x_1490)]) hx hb dX4_readEither_77 rfl hl (by decide +kernel) rfl (fun ls hl => ?_)
                obtain ⟨x_1668, ex_1668⟩ : ∃ y : Int32, y = x_1490 + Int32.ofInt 1 := ⟨_, rfl⟩
                replace hF := hF.trans (ap_n ex_1668)
                have h_1669 : rg x_1668 1 301 := rg_of_eq ex_1668 (rg_add h_1590 (rg_k (Int32.ofInt 1) 1 rfl) (by decide +kernel))
                have uh_1669 := h_1669.1
                have vh_1669 := h_1669.2
                have tx_1668 : (x_1668).toInt = (x_1490).toInt + 1 := by rw [ex_1668]; exact i_add_rg (a2 := (x_1490).toInt) (b2 := 1) rfl rfl h_1590 (rg_k (Int32.ofInt 1) 1 rfl) (by decide +kernel)
                refine lv_iinc (v := x_1668) (lv' := [(2, .int x_1668), (1, .int x_1652), (0, .ref this)]) hx hb dX4_readEither_78 hl (k := 2) rfl ex_1668.symm (by decide +kernel) rfl (fun ls hl => ?_)
                refine lv_goto (tgt := 34) hx hb dX4_readEither_81 (by decide +kernel) ?_
                exact ih_1573 x_1652 x_1668 I_1654 ri_1655 _ _ _ (rg_w h_1667 (by decide +kernel)) (rg_w h_1669 (by decide +kernel)) (by omega) (ft_t hrel_1581 hp_1660) (ms_up 1 hm_1570 ex_1668 rfl (by decide +kernel) h_1590 (by decide +kernel) (by decide +kernel)) hF hFr hG hP hD hS (lv_sub hl [2, 1, 0] rfl)
    exact L_1572 _ (1 : Int32) (0 : Int32) I_31 ri _ _ _ (rg_w (rg_k (1 : Int32) 1 rfl) (by decide +kernel)) (rg_w (rg_k (0 : Int32) 0 rfl) (by decide +kernel)) (by have k0 : (0 : Int32).toInt = 0 := rfl; have k1 : (1 : Int32).toInt = 1 := rfl; omega) (fun _ _ => rfl) (Nat.lt_succ_self _) hF hFr hG hP hD hS (lv_sub hl [2, 1, 0] rfl)
  exact go _ _ _ hP hD hS hl

set_option maxRecDepth 100000 in
def g_X8_firstOf_R_L2 (a0 : Int32) (I : Nat → Int32) (J : Nat → Int64) (ri : Nat → Nat → Int32) (rj : Nat → Nat → Int64) (rq : Nat → Nat → Option Nat) : Nat → (Int32) → Int32 × vM
  | 0, x_127 => ((0 : Int32), I, J, ri, rj, rq)
  | n_144 + 1, x_127 => (ap1 (I 256) fun (y_150 : Int32) => (if (y_150) ≤ x_127 then ((-1 : Int32), I, J, ri, rj, rq) else (ap1 (ri 257 (x_127).toNatClampNeg) fun (x_161 : Int32) => (if x_161 = a0 then (x_127, I, J, ri, rj, rq) else (ap1 (x_127 + Int32.ofInt 1) fun (x_166 : Int32) => ((g_X8_firstOf_R_L2 a0 I J ri rj rq n_144) x_166))))))
set_option maxRecDepth 100000 in
theorem g_X8_firstOf_R_L2_e {a0 : Int32} {I : Nat → Int32} {J : Nat → Int64} {ri : Nat → Nat → Int32} {rj : Nat → Nat → Int64} {rq : Nat → Nat → Option Nat} {n_144 : Nat} {x_127 : Int32} : g_X8_firstOf_R_L2 a0 I J ri rj rq (n_144 + 1) x_127 = (ap1 (I 256) fun (y_150 : Int32) => (if (y_150) ≤ x_127 then ((-1 : Int32), I, J, ri, rj, rq) else (ap1 (ri 257 (x_127).toNatClampNeg) fun (x_161 : Int32) => (if x_161 = a0 then (x_127, I, J, ri, rj, rq) else (ap1 (x_127 + Int32.ofInt 1) fun (x_166 : Int32) => ((g_X8_firstOf_R_L2 a0 I J ri rj rq n_144) x_166)))))) := rfl
set_option maxRecDepth 100000 in
def g_X8_firstOf_R (a0 : Int32) (I : Nat → Int32) (J : Nat → Int64) (ri : Nat → Nat → Int32) (rj : Nat → Nat → Int64) (rq : Nat → Nat → Option Nat) : Int32 × vM := (g_X8_firstOf_R_L2 a0 I J ri rj rq ((20 - ((0 : Int32)).toInt).toNat + 1) (0 : Int32))
set_option maxRecDepth 100000 in
theorem g_X8_firstOf_R_e {a0 : Int32} {I : Nat → Int32} {J : Nat → Int64} {ri : Nat → Nat → Int32} {rj : Nat → Nat → Int64} {rq : Nat → Nat → Option Nat} : g_X8_firstOf_R a0 I J ri rj rq = (g_X8_firstOf_R_L2 a0 I J ri rj rq ((20 - ((0 : Int32)).toInt).toNat + 1) (0 : Int32)) := rfl
set_option maxHeartbeats 4000000 in
set_option maxRecDepth 100000 in
theorem s_X8_firstOf_R (l : Launch) (D : va_G) (t : pq_T) (σ : pq_S) (I : Nat → Nat → Int32) (J : Nat → Nat → Int64) (ri : Nat → Nat → Int32) (rj : Nat → Nat → Int64) (rq : Nat → Nat → Option Nat) (sz : Nat) (tg : Nat → Nat) (hSH : SH σ tg) (hG0 : GS tg σ I ri rq) (this : Nat) (a0 : Int32) (hL_this : this ∈ σ.1) (hK_this : σ.2.1 this = 8) (M : Nat) (hL_M : M ∈ σ.1) (hK_M : σ.2.1 M = 4) (hO_this : this = vo σ 8 M) : MetI l yX8_firstOf (wa yX8_firstOf cX8_firstOf 3 (some .int)) ({ frames := 0, cells := 0, slots := 0, locals := 0 }) [.ref this, .int a0] D t σ (I, J, ri, rj, rq) sz 0 0 (fun (r : Int32) (u : pq_S × pq_M) => u = (σ, I, J, ri, rj, rq) ∧ (r.toInt = -1 ∨ r.toInt < (I 256 this).toInt) ∧ g_X8_firstOf_R a0 (vI 4 σ M I) (vJ 4 σ M J) (vR 4 σ M ri) (vL 4 σ M rj) (vQ 4 σ M rq) = (r, (vI 4 σ M I), (vJ 4 σ M J), (vR 4 σ M ri), (vL 4 σ M rj), (vQ 4 σ M rq)) ∧ rg r (-1) 19) := by
  refine Met.ofW (cc := cX8_firstOf) (maxL := 3) (ret := (some .int)) (by decide +kernel) rfl ?_
  intro p e s m args below meth c s₁ B hml hv
  obtain ⟨rfl, hsz, hP, hK, hD0, hN⟩ := hv
  have hx := B.exec
  have hb := B.bytes
  have hr := B.returns
  have hts := atoms_spec (ws := (wa yX8_firstOf cX8_firstOf 3 (some .int))) B.pre
  have hown : s.vm.findClass RX8 = some m.cls := findClass_of_methodNamed B.named
  have hlocks := B.notSynchronized
  subst hsz
  have hD : va_D (pq_B t σ (I, J, ri, rj, rq) s.heap.size) (pq_P t σ (I, J, ri, rj, rq)) := hD0.self
  generalize hAe : pq_B t σ (I, J, ri, rj, rq) s.heap.size = A at hD ⊢
  have hA : ∀ q : Nat, s.heap.size ≤ q → A q := fun q h => by rw [← hAe]; exact Or.inr h
  have hS : va_S A s.heap s.heap [] := va_S.rf
  have hG : GX [] tg σ I ri rj I ri rj rq := ⟨hG0, fun _ _ _ => rfl, fun _ _ _ _ _ => rfl, fun _ _ _ _ _ => rfl⟩
  have hl := lv_entry ([.ref this, .int a0]) (n := 3) (Nat.le_of_ble_eq_true rfl)
  rw [lg_entry_eq]
  generalize (lg_sl ([.ref this, .int a0]) ++ List.replicate (3 - (lg_sl ([.ref this, .int a0])).length) Slot.unset).toArray = ls at hl ⊢
  have hl : lv_has ls 3 [(0, .ref this), (1, .int a0)] := hl
  refine q_gen (fun Q hQ => ?_)
  have go : ∀ (H : Heap) (locs : List Loc) (ls : Array Slot), va_P D vwCl (pq_P t σ (I, J, ri, rj, rq)) H → va_D A (pq_P t σ (I, J, ri, rj, rq)) → va_S A s.heap H locs → lv_has ls 3 [(0, .ref this), (1, .int a0)] → W p l e ({ frames := 0, cells := 0, slots := 0, locals := 0 } : Room) s m (List.toArray ([.ref this, .int a0] : List Value)) below meth c H locs 0 0 Q (F0 m 0 ls []) := by
    intro H locs ls hP hD hS hl
    have hVT : VT 4 σ tg M := vt_4 hSH hL_M hK_M
    have hFr : FR 4 tg σ M (I, J, ri, rj, rq) (I, J, ri, rj, rq) := fr_rf
    obtain ⟨F, hF0⟩ : ∃ F, F = g_X8_firstOf_R a0 (vI 4 σ M I) (vJ 4 σ M J) (vR 4 σ M ri) (vL 4 σ M rj) (vQ 4 σ M rq) := ⟨_, rfl⟩
    have hF := hF0.trans g_X8_firstOf_R_e
    refine lv_iconst (v := 0) hx hb dX8_firstOf_0 (by decide +kernel) ?_
    refine lv_istore_n (lv' := [(2, .int 0), (0, .ref this), (1, .int a0)]) hx hb dX8_firstOf_1 rfl hl (by decide +kernel) rfl (fun ls hl => ?_)
    have L_145 : ∀ (n_144 : Nat) (x_127 : Int32) (H : Heap) (locs : List Loc) (ls : Array Slot), rg x_127 0 20 → (20 - (x_127).toInt).toNat < n_144 → F = g_X8_firstOf_R_L2 a0 (vI 4 σ M I) (vJ 4 σ M J) (vR 4 σ M ri) (vL 4 σ M rj) (vQ 4 σ M rq) n_144 x_127 → FR 4 tg σ M (I, J, ri, rj, rq) (I, J, ri, rj, rq) → GX [] tg σ I ri rj I ri rj rq → va_P D vwCl (pq_P t σ (I, J, ri, rj, rq)) H → va_D A (pq_P t σ (I, J, ri, rj, rq)) → va_S A s.heap H locs → lv_has ls 3 [(0, .ref this), (1, .int a0), (2, .int x_127)] → W p l e ({ frames := 0, cells := 0, slots := 0, locals := 0 } : Room) s m (List.toArray ([.ref this, .int a0] : List Value)) below meth c H locs 0 0 Q (F0 m 2 ls []) := by
      intro n_144
      induction n_144 with
      | zero => intro x_127 H locs ls h_148 hm_143 hF hFr hG hP hD hS hl; exact absurd hm_143 (Nat.not_lt_zero _)
      | succ n_144 ih_146 =>
        intro x_127 H locs ls h_148 hm_143 hF hFr hG hP hD hS hl
        have uh_148 := h_148.1
        have vh_148 := h_148.2
        replace hF := hF.trans g_X8_firstOf_R_L2_e
        refine lv_iload_n hx hb dX8_firstOf_2 rfl (lv_at hl 2 rfl) ?_
        refine lv_aload_n hx hb dX8_firstOf_3 rfl (lv_at hl 0 rfl) ?_
        refine pg_f (v := .int (I 256 this)) (C := RX8) (T := TX8) (N := 4) hx hb hts (tw_i inlX8) hown hK hP hL_this hK_this (by decide +kernel) rfl 0 (by decide +kernel) (hts _ (tw_c tw_478)) rfl dX8_firstOf_4 ?_
        have h_149 : rg (I 256 this) 0 20 := GX.rI hG 256 rfl
        have uh_149 := h_149.1
        have vh_149 := h_149.2
        replace hF := hF.trans (ap_n (vI_e (f := 256) hO_this (by decide +kernel)))
        refine lv_icmp_ge (tgt := 28) hx hb dX8_firstOf_7 (by decide +kernel) (fun c_151 => ?_) (fun c_151 => ?_)
        · replace hF := hF.trans (if_pos c_151)
          have tc_156 : (I 256 this).toInt ≤ (x_127).toInt := Int32.le_iff_toInt_le.mp c_151
          refine lv_iconst (v := (-1)) hx hb dX8_firstOf_28 (by decide +kernel) ?_
          subst hQ
          exact W.iret (v := (-1)) hx hb hr (fun t1 ht hW => ⟨⟨(-1), (σ, I, J, ri, rj, rq), rfl, ⟨rfl, (Or.inl rfl), (hF0.symm.trans hF), (rg_w (rg_k (-1 : Int32) (-1) rfl) (by decide +kernel))⟩, by rw [ht]; exact hP, va_K.moved hW.alike hK, hD⟩, hS.F ht⟩) hS.2.2 dX8_firstOf_29
        · replace hF := hF.trans (if_neg c_151)
          have tc_157 : (x_127).toInt < (I 256 this).toInt := Int32.lt_iff_toInt_lt.mp (nle c_151)
          have h_158 : rg x_127 0 19 := rg_lt1 (nle c_151) h_148 h_149 (by decide +kernel)
          have uh_158 := h_158.1
          have vh_158 := h_158.2
          have h_159 : rg (I 256 this) 1 20 := rg_lt2 (nle c_151) h_148 h_149 (by decide +kernel)
          have uh_159 := h_159.1
          have vh_159 := h_159.2
          refine lv_aload_n hx hb dX8_firstOf_10 rfl (lv_at hl 0 rfl) ?_
          obtain ⟨w_160, hR_w_160, hL_w_160, hK_w_160, hN_w_160, hT_w_160⟩ := sh_a hSH 257 (ci := 8) (kd := 13) (len := 20) rfl (by decide +kernel) hL_this hK_this
          have hO_w_160 : w_160 = vrow σ 257 M := vo_k (c := 8) hO_this hR_w_160
          refine pg_f (v := .ref w_160) (C := RX8) (T := TX8) (N := 4) hx hb hts (tw_i inlX8) hown hK hP hL_this hK_this (by decide +kernel) rfl 1 (by decide +kernel) (hts _ (tw_c tw_169)) (pq_hv rfl hR_w_160) dX8_firstOf_11 ?_
          refine lv_iload_n hx hb dX8_firstOf_14 rfl (lv_at hl 2 rfl) ?_
          refine pl_i hx hb hK hP hL_w_160 hK_w_160 hN_w_160 (rg_in h_158 (by decide +kernel)) dX8_firstOf_15 ?_
          refine lv_topi (fun x_161 ex_161 => ?_)
          replace hF := hF.trans (ap_n (vR_r hO_w_160 (by decide +kernel) ex_161))
          refine lv_iload_n hx hb dX8_firstOf_16 rfl (lv_at hl 1 rfl) ?_
          refine lv_icmp_ne (tgt := 22) hx hb dX8_firstOf_17 (by decide +kernel) (fun c_162 => ?_) (fun c_162 => ?_)
          · replace hF := hF.trans (if_neg c_162)
            have tc_165 : (x_161).toInt ≠ (a0).toInt := fun q => c_162 (Int32.toInt_inj.mp q)
            obtain ⟨x_166, ex_166⟩ : ∃ y : Int32, y = x_127 + Int32.ofInt 1 := ⟨_, rfl⟩
            replace hF := hF.trans (ap_n ex_166)
            have h_167 : rg x_166 1 20 := rg_of_eq ex_166 (rg_add h_158 (rg_k (Int32.ofInt 1) 1 rfl) (by decide +kernel))
            have uh_167 := h_167.1
            have vh_167 := h_167.2
            have tx_166 : (x_166).toInt = (x_127).toInt + 1 := by rw [ex_166]; exact i_add_rg (a2 := (x_127).toInt) (b2 := 1) rfl rfl h_158 (rg_k (Int32.ofInt 1) 1 rfl) (by decide +kernel)
            refine lv_iinc (v := x_166) (lv' := [(2, .int x_166), (0, .ref this), (1, .int a0)]) hx hb dX8_firstOf_22 hl (k := 2) rfl ex_166.symm (by decide +kernel) rfl (fun ls hl => ?_)
            refine lv_goto (tgt := 2) hx hb dX8_firstOf_25 (by decide +kernel) ?_
            exact ih_146 x_166 _ _ _ (rg_w h_167 (by decide +kernel)) (ms_up 1 hm_143 ex_166 rfl (by decide +kernel) h_158 (by decide +kernel) (by decide +kernel)) hF hFr hG hP hD hS (lv_sub hl [1, 2, 0] rfl)
          · replace hF := hF.trans (if_pos c_162)
            have tc_168 : (x_161).toInt = (a0).toInt := congrArg Int32.toInt c_162
            refine lv_iload_n hx hb dX8_firstOf_20 rfl (lv_at hl 2 rfl) ?_
            subst hQ
            exact W.iret (v := x_127) hx hb hr (fun t1 ht hW => ⟨⟨x_127, (σ, I, J, ri, rj, rq), rfl, ⟨rfl, (by omega), (hF0.symm.trans hF), (rg_w h_158 (by decide +kernel))⟩, by rw [ht]; exact hP, va_K.moved hW.alike hK, hD⟩, hS.F ht⟩) hS.2.2 dX8_firstOf_21
    exact L_145 _ (0 : Int32) _ _ _ (rg_w (rg_k (0 : Int32) 0 rfl) (by decide +kernel)) (Nat.lt_succ_self _) hF hFr hG hP hD hS (lv_sub hl [1, 2, 0] rfl)
  exact go _ _ _ hP hD hS hl

set_option maxRecDepth 100000 in
def g_X4_mostOf (a0 : Int32) : Int32 := (if a0 = (6 : Int32) then (100 : Int32) else (if a0 = (7 : Int32) then (599 : Int32) else (1000 : Int32)))
set_option maxRecDepth 100000 in
theorem g_X4_mostOf_e {a0 : Int32} : g_X4_mostOf a0 = (if a0 = (6 : Int32) then (100 : Int32) else (if a0 = (7 : Int32) then (599 : Int32) else (1000 : Int32))) := rfl
set_option maxHeartbeats 4000000 in
set_option maxRecDepth 100000 in
theorem s_X4_mostOf (l : Launch) (D : va_G) (t : pq_T) (σ : pq_S) (I : Nat → Nat → Int32) (J : Nat → Nat → Int64) (ri : Nat → Nat → Int32) (rj : Nat → Nat → Int64) (rq : Nat → Nat → Option Nat) (sz : Nat) (tg : Nat → Nat) (hSH : SH σ tg) (hG0 : GS tg σ I ri rq) (a0 : Int32) : MetI l yX4_mostOf (wa yX4_mostOf cX4_mostOf 1 (some .int)) ({ frames := 0, cells := 0, slots := 0, locals := 0 }) [.int a0] D t σ (I, J, ri, rj, rq) sz 0 0 (fun (r : Int32) (u : pq_S × pq_M) => u = (σ, I, J, ri, rj, rq) ∧ g_X4_mostOf a0 = r ∧ rg r 100 1000) := by
  refine Met.ofW (cc := cX4_mostOf) (maxL := 1) (ret := (some .int)) (by decide +kernel) rfl ?_
  intro p e s m args below meth c s₁ B hml hv
  obtain ⟨rfl, hsz, hP, hK, hD0, hN⟩ := hv
  have hx := B.exec
  have hb := B.bytes
  have hr := B.returns
  have hts := atoms_spec (ws := (wa yX4_mostOf cX4_mostOf 1 (some .int))) B.pre
  have hown : s.vm.findClass RX4 = some m.cls := findClass_of_methodNamed B.named
  have hlocks := B.notSynchronized
  subst hsz
  have hD : va_D (pq_B t σ (I, J, ri, rj, rq) s.heap.size) (pq_P t σ (I, J, ri, rj, rq)) := hD0.self
  generalize hAe : pq_B t σ (I, J, ri, rj, rq) s.heap.size = A at hD ⊢
  have hA : ∀ q : Nat, s.heap.size ≤ q → A q := fun q h => by rw [← hAe]; exact Or.inr h
  have hS : va_S A s.heap s.heap [] := va_S.rf
  have hG : GX [] tg σ I ri rj I ri rj rq := ⟨hG0, fun _ _ _ => rfl, fun _ _ _ _ _ => rfl, fun _ _ _ _ _ => rfl⟩
  have hl := lv_entry ([.int a0]) (n := 1) (Nat.le_of_ble_eq_true rfl)
  rw [lg_entry_eq]
  generalize (lg_sl ([.int a0]) ++ List.replicate (1 - (lg_sl ([.int a0])).length) Slot.unset).toArray = ls at hl ⊢
  have hl : lv_has ls 1 [(0, .int a0)] := hl
  refine q_gen (fun Q hQ => ?_)
  have go : ∀ (H : Heap) (locs : List Loc) (ls : Array Slot), va_P D vwCl (pq_P t σ (I, J, ri, rj, rq)) H → va_D A (pq_P t σ (I, J, ri, rj, rq)) → va_S A s.heap H locs → lv_has ls 1 [(0, .int a0)] → W p l e ({ frames := 0, cells := 0, slots := 0, locals := 0 } : Room) s m (List.toArray ([.int a0] : List Value)) below meth c H locs 0 0 Q (F0 m 0 ls []) := by
    intro H locs ls hP hD hS hl
    obtain ⟨F, hF0⟩ : ∃ F, F = g_X4_mostOf a0 := ⟨_, rfl⟩
    have hF := hF0.trans g_X4_mostOf_e
    refine lv_iload_n hx hb dX4_mostOf_0 rfl (lv_at hl 0 rfl) ?_
    by_cases k_1 : a0 = (6 : Int32)
    · replace hF := hF.trans (if_pos k_1)
      have tc_4 : (a0).toInt = 6 := congrArg Int32.toInt k_1
      have h_5 : rg a0 6 6 := rg_and (rg_full _) (rg_of_eq k_1 (rg_k (6 : Int32) 6 rfl)) (by decide +kernel)
      have uh_5 := h_5.1
      have vh_5 := h_5.2
      refine lv_tov 6 k_1 ?_
      refine lv_lookup (tgt := 28) hx hb dX4_mostOf_1 (by decide +kernel) rfl (by decide +kernel) ?_
      refine lv_bipush (v := 100) hx hb dX4_mostOf_28 (by decide +kernel) ?_
      subst hQ
      exact W.iret (v := 100) hx hb hr (fun t1 ht hW => ⟨⟨100, (σ, I, J, ri, rj, rq), rfl, ⟨rfl, (hF0.symm.trans hF), (rg_w (rg_k (100 : Int32) 100 rfl) (by decide +kernel))⟩, by rw [ht]; exact hP, va_K.moved hW.alike hK, hD⟩, hS.F ht⟩) hS.2.2 dX4_mostOf_30
    replace hF := hF.trans (if_neg k_1)
    by_cases k_6 : a0 = (7 : Int32)
    · replace hF := hF.trans (if_pos k_6)
      have tc_9 : (a0).toInt = 7 := congrArg Int32.toInt k_6
      have h_10 : rg a0 7 7 := rg_and (rg_full _) (rg_of_eq k_6 (rg_k (7 : Int32) 7 rfl)) (by decide +kernel)
      have uh_10 := h_10.1
      have vh_10 := h_10.2
      refine lv_tov 7 k_6 ?_
      refine lv_lookup (tgt := 31) hx hb dX4_mostOf_1 (by decide +kernel) rfl (by decide +kernel) ?_
      refine lv_sipush (v := 599) hx hb dX4_mostOf_31 (by decide +kernel) ?_
      subst hQ
      exact W.iret (v := 599) hx hb hr (fun t1 ht hW => ⟨⟨599, (σ, I, J, ri, rj, rq), rfl, ⟨rfl, (hF0.symm.trans hF), (rg_w (rg_k (599 : Int32) 599 rfl) (by decide +kernel))⟩, by rw [ht]; exact hP, va_K.moved hW.alike hK, hD⟩, hS.F ht⟩) hS.2.2 dX4_mostOf_34
    replace hF := hF.trans (if_neg k_6)
    refine lv_lookup (tgt := 35) (off := (34)) hx hb dX4_mostOf_1 (by decide +kernel) (by have z_k_1 := (sw_ne k_1 (n := 6) rfl).symm; have z_k_6 := (sw_ne k_6 (n := 7) rfl).symm; simp [Op.lookupswitch.offset, z_k_1, z_k_6]) (by decide +kernel) ?_
    refine lv_sipush (v := 1000) hx hb dX4_mostOf_35 (by decide +kernel) ?_
    subst hQ
    exact W.iret (v := 1000) hx hb hr (fun t1 ht hW => ⟨⟨1000, (σ, I, J, ri, rj, rq), rfl, ⟨rfl, (hF0.symm.trans hF), (rg_w (rg_k (1000 : Int32) 1000 rfl) (by decide +kernel))⟩, by rw [ht]; exact hP, va_K.moved hW.alike hK, hD⟩, hS.F ht⟩) hS.2.2 dX4_mostOf_38
  exact go _ _ _ hP hD hS hl

set_option maxRecDepth 100000 in
def g_X4_expectSemicolon (I : Nat → Int32) (J : Nat → Int64) (ri : Nat → Nat → Int32) (rj : Nat → Nat → Int64) (rq : Nat → Nat → Option Nat) : vM := (ap1 (I 194) fun (y_2 : Int32) => (if (y_2) = (32 : Int32) then (I, J, ri, rj, rq) else (bnV (g_X4_refuse (1 : Int32) I J ri rj rq) fun (I_12 : Nat → Int32) (_ : Nat → Int64) (_ : Nat → Nat → Int32) (_ : Nat → Nat → Int64) (_ : Nat → Nat → Option Nat) => (I_12, J, ri, rj, rq))))
set_option maxRecDepth 100000 in
theorem g_X4_expectSemicolon_e {I : Nat → Int32} {J : Nat → Int64} {ri : Nat → Nat → Int32} {rj : Nat → Nat → Int64} {rq : Nat → Nat → Option Nat} : g_X4_expectSemicolon I J ri rj rq = (ap1 (I 194) fun (y_2 : Int32) => (if (y_2) = (32 : Int32) then (I, J, ri, rj, rq) else (bnV (g_X4_refuse (1 : Int32) I J ri rj rq) fun (I_12 : Nat → Int32) (_ : Nat → Int64) (_ : Nat → Nat → Int32) (_ : Nat → Nat → Int64) (_ : Nat → Nat → Option Nat) => (I_12, J, ri, rj, rq)))) := rfl
set_option maxHeartbeats 4000000 in
set_option maxRecDepth 100000 in
theorem s_X4_expectSemicolon (l : Launch) (D : va_G) (t : pq_T) (σ : pq_S) (I : Nat → Nat → Int32) (J : Nat → Nat → Int64) (ri : Nat → Nat → Int32) (rj : Nat → Nat → Int64) (rq : Nat → Nat → Option Nat) (sz : Nat) (tg : Nat → Nat) (hSH : SH σ tg) (hG0 : GS tg σ I ri rq) (this : Nat) (hL_this : this ∈ σ.1) (hK_this : σ.2.1 this = 4) : MetV l yX4_expectSemicolon (wa yX4_expectSemicolon cX4_expectSemicolon 1 none) ({ frames := 1, cells := 0, slots := 0, locals := 21 }) [.ref this] D t σ (I, J, ri, rj, rq) sz 0 0 (fun (u : pq_S × pq_M) => ∃ I' : Nat → Nat → Int32, u = (σ, I', J, ri, rj, rq) ∧ GX [129] tg σ I ri rj I' ri rj rq ∧ ((I' 129 this).toInt = 0 → (I 129 this).toInt = 0) ∧ g_X4_expectSemicolon (vI 4 σ this I) (vJ 4 σ this J) (vR 4 σ this ri) (vL 4 σ this rj) (vQ 4 σ this rq) = ((vI 4 σ this I'), (vJ 4 σ this J), (vR 4 σ this ri), (vL 4 σ this rj), (vQ 4 σ this rq)) ∧ FR 4 tg σ this (I, J, ri, rj, rq) (I', J, ri, rj, rq)) := by
  refine Met.ofW (cc := cX4_expectSemicolon) (maxL := 1) (ret := none) (by decide +kernel) rfl ?_
  intro p e s m args below meth c s₁ B hml hv
  obtain ⟨rfl, hsz, hP, hK, hD0, hN⟩ := hv
  have hx := B.exec
  have hb := B.bytes
  have hr := B.returns
  have hts := atoms_spec (ws := (wa yX4_expectSemicolon cX4_expectSemicolon 1 none)) B.pre
  have hown : s.vm.findClass RX4 = some m.cls := findClass_of_methodNamed B.named
  have hlocks := B.notSynchronized
  subst hsz
  have hD : va_D (pq_B t σ (I, J, ri, rj, rq) s.heap.size) (pq_P t σ (I, J, ri, rj, rq)) := hD0.self
  generalize hAe : pq_B t σ (I, J, ri, rj, rq) s.heap.size = A at hD ⊢
  have hA : ∀ q : Nat, s.heap.size ≤ q → A q := fun q h => by rw [← hAe]; exact Or.inr h
  have hS : va_S A s.heap s.heap [] := va_S.rf
  have hG : GX [129] tg σ I ri rj I ri rj rq := ⟨hG0, fun _ _ _ => rfl, fun _ _ _ _ _ => rfl, fun _ _ _ _ _ => rfl⟩
  have hl := lv_entry ([.ref this]) (n := 1) (Nat.le_of_ble_eq_true rfl)
  rw [lg_entry_eq]
  generalize (lg_sl ([.ref this]) ++ List.replicate (1 - (lg_sl ([.ref this])).length) Slot.unset).toArray = ls at hl ⊢
  have hl : lv_has ls 1 [(0, .ref this)] := hl
  refine q_gen (fun Q hQ => ?_)
  have go : ∀ (H : Heap) (locs : List Loc) (ls : Array Slot), va_P D vwCl (pq_P t σ (I, J, ri, rj, rq)) H → va_D A (pq_P t σ (I, J, ri, rj, rq)) → va_S A s.heap H locs → lv_has ls 1 [(0, .ref this)] → W p l e ({ frames := 1, cells := 0, slots := 0, locals := 21 } : Room) s m (List.toArray ([.ref this] : List Value)) below meth c H locs 0 0 Q (F0 m 0 ls []) := by
    intro H locs ls hP hD hS hl
    have hO_this : this = vo σ 4 this := rfl
    have hVT : VT 4 σ tg this := vt_4 hSH hL_this hK_this
    have hFr : FR 4 tg σ this (I, J, ri, rj, rq) (I, J, ri, rj, rq) := fr_rf
    obtain ⟨F, hF0⟩ : ∃ F, F = g_X4_expectSemicolon (vI 4 σ this I) (vJ 4 σ this J) (vR 4 σ this ri) (vL 4 σ this rj) (vQ 4 σ this rq) := ⟨_, rfl⟩
    have hF := hF0.trans g_X4_expectSemicolon_e
    refine lv_aload_n hx hb dX4_expectSemicolon_0 rfl (lv_at hl 0 rfl) ?_
    obtain ⟨w_1, hR_w_1, hL_w_1, hK_w_1⟩ := sh_o hSH 128 (ci := 4) (kd := 6) rfl hL_this hK_this
    have hO_w_1 : w_1 = vo σ 6 this := vo_k (c := 4) hO_this hR_w_1
    refine pg_f (v := .ref w_1) (C := RX4) (T := TX4) (N := 12) hx hb hts (tw_i inlX4) hown hK hP hL_this hK_this (by decide +kernel) rfl 0 (by decide +kernel) (hts _ (tw_c tw_154)) (pq_hv rfl hR_w_1) dX4_expectSemicolon_1 ?_
    refine pg_f (v := .int (I 194 w_1)) (C := RX6) (T := TX6) (N := 6) hx hb hts (tw_i inlX6) hown hK hP hL_w_1 hK_w_1 (by decide +kernel) rfl 2 (by decide +kernel) (hts _ (tw_c tw_657)) rfl dX4_expectSemicolon_4 ?_
    replace hF := hF.trans (ap_n (vI_e (f := 194) hO_w_1 (by decide +kernel)))
    refine lv_bipush (v := 32) hx hb dX4_expectSemicolon_7 (by decide +kernel) ?_
    refine lv_icmp_eq (tgt := 17) hx hb dX4_expectSemicolon_9 (by decide +kernel) (fun c_3 => ?_) (fun c_3 => ?_)
    · replace hF := hF.trans (if_pos c_3)
      have tc_7 : (I 194 w_1).toInt = 32 := congrArg Int32.toInt c_3
      have h_8 : rg (I 194 w_1) 32 32 := rg_and (rg_full _) (rg_of_eq c_3 (rg_k (32 : Int32) 32 rfl)) (by decide +kernel)
      have uh_8 := h_8.1
      have vh_8 := h_8.2
      subst hQ
      exact W.vret hx hb hr (fun t1 ht hW => ⟨⟨(σ, I, J, ri, rj, rq), rfl, ⟨I, rfl, hG, (by omega), (hF0.symm.trans hF), hFr⟩, by rw [ht]; exact hP, va_K.moved hW.alike hK, hD⟩, hS.F ht⟩) hS.2.2 dX4_expectSemicolon_17
    · replace hF := hF.trans (if_neg c_3)
      have tc_9 : (I 194 w_1).toInt ≠ 32 := fun q => c_3 (Int32.toInt_inj.mp q)
      refine lv_aload_n hx hb dX4_expectSemicolon_12 rfl (lv_at hl 0 rfl) ?_
      refine lv_iconst (v := 1) hx hb dX4_expectSemicolon_13 (by decide +kernel) ?_
      refine pk_v (va_runV (As := [.int 1]) (rest := []) ⟨hx, hb, hml, hown, hts⟩ (s_X4_refuse l D t σ I J ri rj rq H.size tg hSH hG.1 this (1 : Int32) hL_this hK_this (rg_w (rg_k (1 : Int32) 1 rfl) (by decide +kernel))) (cwV 1 hts (tw_V tw_748 tw_749 tw_750 tw_25 tw_751) rfl rfl rfl cv_yX4_refuse_1 ⟨Nat.le_of_ble_eq_true rfl, Nat.le_of_ble_eq_true rfl⟩) ⟨pq_blind, pq_recv hK hP hL_this hK_this (by decide +kernel) rfl, pq_pre hK hN hP hD⟩ rfl rfl hl.1 rfl (lv_room (Nat.le_of_ble_eq_true rfl)) dX4_expectSemicolon_14 ⟨Nat.le_of_ble_eq_true rfl, Nat.le_of_ble_eq_true rfl⟩) hD hS hA (fun σ1 μ1 H locs hw_11 hP hD hS => ?_)
      obtain ⟨I_12, hu_13, hg_14, hp_16, hfn_17, hfr_18⟩ := hw_11
      obtain ⟨hu_13a, hu_13b⟩ := Prod.mk.inj hu_13
      rw [hu_13a, hu_13b] at hP hD
      replace hF := hF.trans (bv_n hfn_17)
      replace hFr := fr_tr hFr hfr_18
      have tt_19 := hp_16
      have hG := GX.tr hG hg_14 (by decide +kernel)
      have tt_20 : (I_12 132 this).toInt = (I 132 this).toInt := by rw [hg_14.2.1 132 (by decide +kernel) (by decide +kernel)]
      have tt_21 : (I_12 134 this).toInt = (I 134 this).toInt := by rw [hg_14.2.1 134 (by decide +kernel) (by decide +kernel)]
      subst hQ
      exact W.vret hx hb hr (fun t1 ht hW => ⟨⟨(σ, I_12, J, ri, rj, rq), rfl, ⟨I_12, rfl, hG, (by omega), (hF0.symm.trans hF), hFr⟩, by rw [ht]; exact hP, va_K.moved hW.alike hK, hD⟩, hS.F ht⟩) hS.2.2 dX4_expectSemicolon_17
  exact go _ _ _ hP hD hS hl

set_option maxRecDepth 100000 in
def g_X4_readNumber (a0 : Int32) (I : Nat → Int32) (J : Nat → Int64) (ri : Nat → Nat → Int32) (rj : Nat → Nat → Int64) (rq : Nat → Nat → Option Nat) : vM := (bnV (g_X6_advance I J ri rj rq) fun (I_3 : Nat → Int32) (_ : Nat → Int64) (_ : Nat → Nat → Int32) (_ : Nat → Nat → Int64) (_ : Nat → Nat → Option Nat) => (ap1 (I_3 194) fun (y_16 : Int32) => (if (y_16) = (18 : Int32) then (ap1 (I_3 196) fun (y_23 : Int32) => (if (y_23) ≤ a0 then (bnV (g_X4_emit (y_23) I_3 J ri rj rq) fun (I_32 : Nat → Int32) (_ : Nat → Int64) (ri_33 : Nat → Nat → Int32) (_ : Nat → Nat → Int64) (_ : Nat → Nat → Option Nat) => (bnV (g_X6_advance I_32 J ri_33 rj rq) fun (I_49 : Nat → Int32) (_ : Nat → Int64) (_ : Nat → Nat → Int32) (_ : Nat → Nat → Int64) (_ : Nat → Nat → Option Nat) => (bnV (g_X4_expectSemicolon I_49 J ri_33 rj rq) fun (I_64 : Nat → Int32) (_ : Nat → Int64) (_ : Nat → Nat → Int32) (_ : Nat → Nat → Int64) (_ : Nat → Nat → Option Nat) => (I_64, J, ri_33, rj, rq)))) else (bnV (g_X4_refuse (2 : Int32) I_3 J ri rj rq) fun (I_81 : Nat → Int32) (_ : Nat → Int64) (_ : Nat → Nat → Int32) (_ : Nat → Nat → Int64) (_ : Nat → Nat → Option Nat) => (I_81, J, ri, rj, rq)))) else (bnV (g_X4_refuse (1 : Int32) I_3 J ri rj rq) fun (I_96 : Nat → Int32) (_ : Nat → Int64) (_ : Nat → Nat → Int32) (_ : Nat → Nat → Int64) (_ : Nat → Nat → Option Nat) => (I_96, J, ri, rj, rq)))))
set_option maxRecDepth 100000 in
theorem g_X4_readNumber_e {a0 : Int32} {I : Nat → Int32} {J : Nat → Int64} {ri : Nat → Nat → Int32} {rj : Nat → Nat → Int64} {rq : Nat → Nat → Option Nat} : g_X4_readNumber a0 I J ri rj rq = (bnV (g_X6_advance I J ri rj rq) fun (I_3 : Nat → Int32) (_ : Nat → Int64) (_ : Nat → Nat → Int32) (_ : Nat → Nat → Int64) (_ : Nat → Nat → Option Nat) => (ap1 (I_3 194) fun (y_16 : Int32) => (if (y_16) = (18 : Int32) then (ap1 (I_3 196) fun (y_23 : Int32) => (if (y_23) ≤ a0 then (bnV (g_X4_emit (y_23) I_3 J ri rj rq) fun (I_32 : Nat → Int32) (_ : Nat → Int64) (ri_33 : Nat → Nat → Int32) (_ : Nat → Nat → Int64) (_ : Nat → Nat → Option Nat) => (bnV (g_X6_advance I_32 J ri_33 rj rq) fun (I_49 : Nat → Int32) (_ : Nat → Int64) (_ : Nat → Nat → Int32) (_ : Nat → Nat → Int64) (_ : Nat → Nat → Option Nat) => (bnV (g_X4_expectSemicolon I_49 J ri_33 rj rq) fun (I_64 : Nat → Int32) (_ : Nat → Int64) (_ : Nat → Nat → Int32) (_ : Nat → Nat → Int64) (_ : Nat → Nat → Option Nat) => (I_64, J, ri_33, rj, rq)))) else (bnV (g_X4_refuse (2 : Int32) I_3 J ri rj rq) fun (I_81 : Nat → Int32) (_ : Nat → Int64) (_ : Nat → Nat → Int32) (_ : Nat → Nat → Int64) (_ : Nat → Nat → Option Nat) => (I_81, J, ri, rj, rq)))) else (bnV (g_X4_refuse (1 : Int32) I_3 J ri rj rq) fun (I_96 : Nat → Int32) (_ : Nat → Int64) (_ : Nat → Nat → Int32) (_ : Nat → Nat → Int64) (_ : Nat → Nat → Option Nat) => (I_96, J, ri, rj, rq))))) := rfl
set_option maxHeartbeats 4000000 in
set_option maxRecDepth 100000 in
theorem s_X4_readNumber (l : Launch) (D : va_G) (t : pq_T) (σ : pq_S) (I : Nat → Nat → Int32) (J : Nat → Nat → Int64) (ri : Nat → Nat → Int32) (rj : Nat → Nat → Int64) (rq : Nat → Nat → Option Nat) (sz : Nat) (aK aV : Nat) (vF : Value) (tg : Nat → Nat) (hSH : SH σ tg) (hG0 : GS tg σ I ri rq) (this : Nat) (a0 : Int32) (hL_this : this ∈ σ.1) (hK_this : σ.2.1 this = 4) (this_scanner : Nat) (hR_this_scanner : σ.2.2.1 128 this = some this_scanner) (hL_this_scanner : this_scanner ∈ σ.1) (hK_this_scanner : σ.2.1 this_scanner = 6) (hca : (I 132 this).toInt ≤ (I 197 this_scanner).toInt) : MetVS aK aV vF l yX4_readNumber (wa yX4_readNumber cX4_readNumber 2 none) ({ frames := 6, cells := 0, slots := 0, locals := 129 }) [.ref this, .int a0] D t σ (I, J, ri, rj, rq) sz 0 0 (fun (u : pq_S × pq_M) => ∃ I' : Nat → Nat → Int32, ∃ ri' : Nat → Nat → Int32, u = (σ, I', J, ri', rj, rq) ∧ GX [197, 194, 132, 129] tg σ I ri rj I' ri' rj rq ∧ ((I' 132 this).toInt ≤ (I' 197 this_scanner).toInt) ∧ (∀ q, tg q = 258 → ri' q = ri q) ∧ g_X4_readNumber a0 (vI 4 σ this I) (vJ 4 σ this J) (vR 4 σ this ri) (vL 4 σ this rj) (vQ 4 σ this rq) = ((vI 4 σ this I'), (vJ 4 σ this J), (vR 4 σ this ri'), (vL 4 σ this rj), (vQ 4 σ this rq)) ∧ FR 4 tg σ this (I, J, ri, rj, rq) (I', J, ri', rj, rq)) := by
  refine Met.ofW (cc := cX4_readNumber) (maxL := 2) (ret := none) (by decide +kernel) rfl ?_
  intro p e s m args below meth c s₁ B hml hv
  obtain ⟨rfl, ⟨hsz, hP, hK, hD0, hN⟩, hW0⟩ := hv
  have hx := B.exec
  have hb := B.bytes
  have hr := B.returns
  have hts := atoms_spec (ws := (wa yX4_readNumber cX4_readNumber 2 none)) B.pre
  have hown : s.vm.findClass RX4 = some m.cls := findClass_of_methodNamed B.named
  have hlocks := B.notSynchronized
  subst hsz
  have hD : va_D (pq_B t σ (I, J, ri, rj, rq) s.heap.size) (pq_P t σ (I, J, ri, rj, rq)) := hD0.self
  generalize hAe : pq_B t σ (I, J, ri, rj, rq) s.heap.size = A at hD hW0 ⊢
  have hA : ∀ q : Nat, s.heap.size ≤ q → A q := fun q h => by rw [← hAe]; exact Or.inr h
  have hS : va_S A s.heap s.heap [] := va_S.rf
  have hG : GX [197, 194, 132, 129] tg σ I ri rj I ri rj rq := ⟨hG0, fun _ _ _ => rfl, fun _ _ _ _ _ => rfl, fun _ _ _ _ _ => rfl⟩
  have hl := lv_entry ([.ref this, .int a0]) (n := 2) (Nat.le_of_ble_eq_true rfl)
  rw [lg_entry_eq]
  generalize (lg_sl ([.ref this, .int a0]) ++ List.replicate (2 - (lg_sl ([.ref this, .int a0])).length) Slot.unset).toArray = ls at hl ⊢
  have hl : lv_has ls 2 [(0, .ref this), (1, .int a0)] := hl
  refine q_gen (fun Q hQ => ?_)
  have go : ∀ (H : Heap) (locs : List Loc) (ls : Array Slot), va_P D vwCl (pq_P t σ (I, J, ri, rj, rq)) H → va_D A (pq_P t σ (I, J, ri, rj, rq)) → va_S A s.heap H locs → lv_has ls 2 [(0, .ref this), (1, .int a0)] → W p l e ({ frames := 6, cells := 0, slots := 0, locals := 129 } : Room) s m (List.toArray ([.ref this, .int a0] : List Value)) below meth c H locs 0 0 Q (F0 m 0 ls []) := by
    intro H locs ls hP hD hS hl
    have hO_this : this = vo σ 4 this := rfl
    have hVT : VT 4 σ tg this := vt_4 hSH hL_this hK_this
    have hFr : FR 4 tg σ this (I, J, ri, rj, rq) (I, J, ri, rj, rq) := fr_rf
    have hO_this_scanner : this_scanner = vo σ 6 this := vo_k (c := 4) hO_this hR_this_scanner
    obtain ⟨F, hF0⟩ : ∃ F, F = g_X4_readNumber a0 (vI 4 σ this I) (vJ 4 σ this J) (vR 4 σ this ri) (vL 4 σ this rj) (vQ 4 σ this rq) := ⟨_, rfl⟩
    have hF := hF0.trans g_X4_readNumber_e
    refine lv_aload_n hx hb dX4_readNumber_0 rfl (lv_at hl 0 rfl) ?_
    refine pg_f (v := .ref this_scanner) (C := RX4) (T := TX4) (N := 12) hx hb hts (tw_i inlX4) hown hK hP hL_this hK_this (by decide +kernel) rfl 0 (by decide +kernel) (hts _ (tw_c tw_154)) (pq_hv rfl hR_this_scanner) dX4_readNumber_1 ?_
    refine pk_v (va_runV (As := []) (rest := []) ⟨hx, hb, hml, hown, hts⟩ (s_X6_advance l D t σ I J ri rj rq H.size aK aV vF tg hSH hG.1 this_scanner hL_this_scanner hK_this_scanner this hL_this hK_this hO_this_scanner) (cwV 0 hts (tw_V tw_663 tw_664 tw_665 tw_153 tw_666) rfl rfl rfl cv_yX6_advance_0 ⟨Nat.le_of_ble_eq_true rfl, Nat.le_of_ble_eq_true rfl⟩) ⟨pq_blindS, pq_recv hK hP hL_this_scanner hK_this_scanner (by decide +kernel) rfl, pq_preS hK hN hP hD hS hA hW0⟩ rfl rfl hl.1 rfl (lv_room (Nat.le_of_ble_eq_true rfl)) dX4_readNumber_4 ⟨Nat.le_of_ble_eq_true rfl, Nat.le_of_ble_eq_true rfl⟩) hD hS hA (fun σ1 μ1 H locs hw_2 hP hD hS => ?_)
    obtain ⟨I_3, hu_4, hg_5, hp_7, hp_8, hfn_9, hfr_10⟩ := hw_2
    obtain ⟨hu_4a, hu_4b⟩ := Prod.mk.inj hu_4
    rw [hu_4a, hu_4b] at hP hD
    replace hF := hF.trans (bv_n hfn_9)
    replace hFr := fr_tr hFr hfr_10
    have tt_11 := hp_7
    have tt_12 := hp_8
    have hG := GX.tr hG hg_5 (by decide +kernel)
    have tt_13 : (I_3 132 this).toInt = (I 132 this).toInt := by rw [hg_5.2.1 132 (by decide +kernel) (by decide +kernel)]
    have tt_14 : (I_3 134 this).toInt = (I 134 this).toInt := by rw [hg_5.2.1 134 (by decide +kernel) (by decide +kernel)]
    have tt_15 : (I_3 129 this).toInt = (I 129 this).toInt := by rw [hg_5.2.1 129 (by decide +kernel) (by decide +kernel)]
    refine lv_aload_n hx hb dX4_readNumber_7 rfl (lv_at hl 0 rfl) ?_
    refine pg_f (v := .ref this_scanner) (C := RX4) (T := TX4) (N := 12) hx hb hts (tw_i inlX4) hown hK hP hL_this hK_this (by decide +kernel) rfl 0 (by decide +kernel) (hts _ (tw_c tw_154)) (pq_hv rfl hR_this_scanner) dX4_readNumber_8 ?_
    refine pg_f (v := .int (I_3 194 this_scanner)) (C := RX6) (T := TX6) (N := 6) hx hb hts (tw_i inlX6) hown hK hP hL_this_scanner hK_this_scanner (by decide +kernel) rfl 2 (by decide +kernel) (hts _ (tw_c tw_657)) rfl dX4_readNumber_11 ?_
    replace hF := hF.trans (ap_n (vI_e (f := 194) hO_this_scanner (by decide +kernel)))
    refine lv_bipush (v := 18) hx hb dX4_readNumber_14 (by decide +kernel) ?_
    refine lv_icmp_eq (tgt := 27) hx hb dX4_readNumber_16 (by decide +kernel) (fun c_17 => ?_) (fun c_17 => ?_)
    · replace hF := hF.trans (if_pos c_17)
      have tc_21 : (I_3 194 this_scanner).toInt = 18 := congrArg Int32.toInt c_17
      have h_22 : rg (I_3 194 this_scanner) 18 18 := rg_and (rg_full _) (rg_of_eq c_17 (rg_k (18 : Int32) 18 rfl)) (by decide +kernel)
      have uh_22 := h_22.1
      have vh_22 := h_22.2
      refine lv_aload_n hx hb dX4_readNumber_27 rfl (lv_at hl 0 rfl) ?_
      refine pg_f (v := .ref this_scanner) (C := RX4) (T := TX4) (N := 12) hx hb hts (tw_i inlX4) hown hK hP hL_this hK_this (by decide +kernel) rfl 0 (by decide +kernel) (hts _ (tw_c tw_154)) (pq_hv rfl hR_this_scanner) dX4_readNumber_28 ?_
      refine pg_f (v := .int (I_3 196 this_scanner)) (C := RX6) (T := TX6) (N := 6) hx hb hts (tw_i inlX6) hown hK hP hL_this_scanner hK_this_scanner (by decide +kernel) rfl 4 (by decide +kernel) (hts _ (tw_c tw_768)) rfl dX4_readNumber_31 ?_
      replace hF := hF.trans (ap_n (vI_e (f := 196) hO_this_scanner (by decide +kernel)))
      refine lv_iload_n hx hb dX4_readNumber_34 rfl (lv_at hl 1 rfl) ?_
      refine lv_icmp_le (tgt := 46) hx hb dX4_readNumber_35 (by decide +kernel) (fun c_24 => ?_) (fun c_24 => ?_)
      · replace hF := hF.trans (if_pos c_24)
        have tc_29 : (I_3 196 this_scanner).toInt ≤ (a0).toInt := Int32.le_iff_toInt_le.mp c_24
        refine lv_aload_n hx hb dX4_readNumber_46 rfl (lv_at hl 0 rfl) ?_
        refine lv_aload_n hx hb dX4_readNumber_47 rfl (lv_at hl 0 rfl) ?_
        refine pg_f (v := .ref this_scanner) (C := RX4) (T := TX4) (N := 12) hx hb hts (tw_i inlX4) hown hK hP hL_this hK_this (by decide +kernel) rfl 0 (by decide +kernel) (hts _ (tw_c tw_154)) (pq_hv rfl hR_this_scanner) dX4_readNumber_48 ?_
        refine pg_f (v := .int (I_3 196 this_scanner)) (C := RX6) (T := TX6) (N := 6) hx hb hts (tw_i inlX6) hown hK hP hL_this_scanner hK_this_scanner (by decide +kernel) rfl 4 (by decide +kernel) (hts _ (tw_c tw_768)) rfl dX4_readNumber_51 ?_
        refine pk_v (va_runV (As := [.int (I_3 196 this_scanner)]) (rest := []) ⟨hx, hb, hml, hown, hts⟩ (s_X4_emit l D t σ I_3 J ri rj rq H.size tg hSH hG.1 this (I_3 196 this_scanner) hL_this hK_this) (cwV 1 hts (tw_V tw_769 tw_770 tw_771 tw_25 tw_772) rfl rfl rfl cv_yX4_emit_1 ⟨Nat.le_of_ble_eq_true rfl, Nat.le_of_ble_eq_true rfl⟩) ⟨pq_blind, pq_recv hK hP hL_this hK_this (by decide +kernel) rfl, pq_pre hK hN hP hD⟩ rfl rfl hl.1 rfl (lv_room (Nat.le_of_ble_eq_true rfl)) dX4_readNumber_54 ⟨Nat.le_of_ble_eq_true rfl, Nat.le_of_ble_eq_true rfl⟩) hD hS hA (fun σ1 μ1 H locs hw_31 hP hD hS => ?_)
        obtain ⟨I_32, ri_33, hu_34, hg_35, hp_37, hp_38, hfn_39, hfr_40⟩ := hw_31
        obtain ⟨hu_34a, hu_34b⟩ := Prod.mk.inj hu_34
        rw [hu_34a, hu_34b] at hP hD
        replace hF := hF.trans (bv_n hfn_39)
        replace hFr := fr_tr hFr hfr_40
        have tt_41 := hp_37
        have tt_42 := hp_38
        have hG := GX.tr hG hg_35 (by decide +kernel)
        have tt_43 : (I_32 134 this).toInt = (I_3 134 this).toInt := by rw [hg_35.2.1 134 (by decide +kernel) (by decide +kernel)]
        have tt_44 : (I_32 129 this).toInt = (I_3 129 this).toInt := by rw [hg_35.2.1 129 (by decide +kernel) (by decide +kernel)]
        have tt_45 : (I_32 197 this_scanner).toInt = (I_3 197 this_scanner).toInt := by rw [hg_35.2.1 197 (by decide +kernel) (by decide +kernel)]
        have tt_46 : (I_32 194 this_scanner).toInt = (I_3 194 this_scanner).toInt := by rw [hg_35.2.1 194 (by decide +kernel) (by decide +kernel)]
        refine lv_aload_n hx hb dX4_readNumber_57 rfl (lv_at hl 0 rfl) ?_
        refine pg_f (v := .ref this_scanner) (C := RX4) (T := TX4) (N := 12) hx hb hts (tw_i inlX4) hown hK hP hL_this hK_this (by decide +kernel) rfl 0 (by decide +kernel) (hts _ (tw_c tw_154)) (pq_hv rfl hR_this_scanner) dX4_readNumber_58 ?_
        refine pk_v (va_runV (As := []) (rest := []) ⟨hx, hb, hml, hown, hts⟩ (s_X6_advance l D t σ I_32 J ri_33 rj rq H.size aK aV vF tg hSH hG.1 this_scanner hL_this_scanner hK_this_scanner this hL_this hK_this hO_this_scanner) (cwV 0 hts (tw_V tw_663 tw_664 tw_665 tw_153 tw_666) rfl rfl rfl cv_yX6_advance_0 ⟨Nat.le_of_ble_eq_true rfl, Nat.le_of_ble_eq_true rfl⟩) ⟨pq_blindS, pq_recv hK hP hL_this_scanner hK_this_scanner (by decide +kernel) rfl, pq_preS hK hN hP hD hS hA hW0⟩ rfl rfl hl.1 rfl (lv_room (Nat.le_of_ble_eq_true rfl)) dX4_readNumber_61 ⟨Nat.le_of_ble_eq_true rfl, Nat.le_of_ble_eq_true rfl⟩) hD hS hA (fun σ1 μ1 H locs hw_48 hP hD hS => ?_)
        obtain ⟨I_49, hu_50, hg_51, hp_53, hp_54, hfn_55, hfr_56⟩ := hw_48
        obtain ⟨hu_50a, hu_50b⟩ := Prod.mk.inj hu_50
        rw [hu_50a, hu_50b] at hP hD
        replace hF := hF.trans (bv_n hfn_55)
        replace hFr := fr_tr hFr hfr_56
        have tt_57 := hp_53
        have tt_58 := hp_54
        have hG := GX.tr hG hg_51 (by decide +kernel)
        have tt_59 : (I_49 132 this).toInt = (I_32 132 this).toInt := by rw [hg_51.2.1 132 (by decide +kernel) (by decide +kernel)]
        have tt_60 : (I_49 134 this).toInt = (I_32 134 this).toInt := by rw [hg_51.2.1 134 (by decide +kernel) (by decide +kernel)]
        have tt_61 : (I_49 129 this).toInt = (I_32 129 this).toInt := by rw [hg_51.2.1 129 (by decide +kernel) (by decide +kernel)]
        refine lv_aload_n hx hb dX4_readNumber_64 rfl (lv_at hl 0 rfl) ?_
        refine pk_v (va_runV (As := []) (rest := []) ⟨hx, hb, hml, hown, hts⟩ (s_X4_expectSemicolon l D t σ I_49 J ri_33 rj rq H.size tg hSH hG.1 this hL_this hK_this) (cwV 0 hts (tw_V tw_805 tw_806 tw_807 tw_25 tw_808) rfl rfl rfl cv_yX4_expectSemicolon_0 ⟨Nat.le_of_ble_eq_true rfl, Nat.le_of_ble_eq_true rfl⟩) ⟨pq_blind, pq_recv hK hP hL_this hK_this (by decide +kernel) rfl, pq_pre hK hN hP hD⟩ rfl rfl hl.1 rfl (lv_room (Nat.le_of_ble_eq_true rfl)) dX4_readNumber_65 ⟨Nat.le_of_ble_eq_true rfl, Nat.le_of_ble_eq_true rfl⟩) hD hS hA (fun σ1 μ1 H locs hw_63 hP hD hS => ?_)
        obtain ⟨I_64, hu_65, hg_66, hp_68, hfn_69, hfr_70⟩ := hw_63
        obtain ⟨hu_65a, hu_65b⟩ := Prod.mk.inj hu_65
        rw [hu_65a, hu_65b] at hP hD
        replace hF := hF.trans (bv_n hfn_69)
        replace hFr := fr_tr hFr hfr_70
        have tt_71 := hp_68
        have hG := GX.tr hG hg_66 (by decide +kernel)
        have tt_72 : (I_64 132 this).toInt = (I_49 132 this).toInt := by rw [hg_66.2.1 132 (by decide +kernel) (by decide +kernel)]
        have tt_73 : (I_64 134 this).toInt = (I_49 134 this).toInt := by rw [hg_66.2.1 134 (by decide +kernel) (by decide +kernel)]
        have tt_74 : (I_64 197 this_scanner).toInt = (I_49 197 this_scanner).toInt := by rw [hg_66.2.1 197 (by decide +kernel) (by decide +kernel)]
        have tt_75 : (I_64 194 this_scanner).toInt = (I_49 194 this_scanner).toInt := by rw [hg_66.2.1 194 (by decide +kernel) (by decide +kernel)]
        subst hQ
        exact W.vret hx hb hr (fun t1 ht hW => ⟨⟨(σ, I_64, J, ri_33, rj, rq), rfl, ⟨I_64, ri_33, rfl, hG, (by omega), (ft_t (fun _ _ => rfl) hp_38), (hF0.symm.trans hF), hFr⟩, by rw [ht]; exact hP, va_K.moved hW.alike hK, hD⟩, hS.F ht⟩) hS.2.2 dX4_readNumber_68
      · replace hF := hF.trans (if_neg c_24)
        have tc_76 : (a0).toInt < (I_3 196 this_scanner).toInt := Int32.lt_iff_toInt_lt.mp (nle c_24)
        have h_77 : rg a0 (-2147483648) 2147483646 := rg_lt1 (nle c_24) (rg_full _) (rg_full _) (by decide +kernel)
        have uh_77 := h_77.1
        have vh_77 := h_77.2
        have h_78 : rg (I_3 196 this_scanner) (-2147483647) 2147483647 := rg_lt2 (nle c_24) (rg_full _) (rg_full _) (by decide +kernel)
        have uh_78 := h_78.1
        have vh_78 := h_78.2
        refine lv_aload_n hx hb dX4_readNumber_38 rfl (lv_at hl 0 rfl) ?_
        refine lv_iconst (v := 2) hx hb dX4_readNumber_39 (by decide +kernel) ?_
        refine pk_v (va_runV (As := [.int 2]) (rest := []) ⟨hx, hb, hml, hown, hts⟩ (s_X4_refuse l D t σ I_3 J ri rj rq H.size tg hSH hG.1 this (2 : Int32) hL_this hK_this (rg_w (rg_k (2 : Int32) 2 rfl) (by decide +kernel))) (cwV 1 hts (tw_V tw_748 tw_749 tw_750 tw_25 tw_751) rfl rfl rfl cv_yX4_refuse_1 ⟨Nat.le_of_ble_eq_true rfl, Nat.le_of_ble_eq_true rfl⟩) ⟨pq_blind, pq_recv hK hP hL_this hK_this (by decide +kernel) rfl, pq_pre hK hN hP hD⟩ rfl rfl hl.1 rfl (lv_room (Nat.le_of_ble_eq_true rfl)) dX4_readNumber_40 ⟨Nat.le_of_ble_eq_true rfl, Nat.le_of_ble_eq_true rfl⟩) hD hS hA (fun σ1 μ1 H locs hw_80 hP hD hS => ?_)
        obtain ⟨I_81, hu_82, hg_83, hp_85, hfn_86, hfr_87⟩ := hw_80
        obtain ⟨hu_82a, hu_82b⟩ := Prod.mk.inj hu_82
        rw [hu_82a, hu_82b] at hP hD
        replace hF := hF.trans (bv_n hfn_86)
        replace hFr := fr_tr hFr hfr_87
        have tt_88 := hp_85
        have hG := GX.tr hG hg_83 (by decide +kernel)
        have tt_89 : (I_81 132 this).toInt = (I_3 132 this).toInt := by rw [hg_83.2.1 132 (by decide +kernel) (by decide +kernel)]
        have tt_90 : (I_81 134 this).toInt = (I_3 134 this).toInt := by rw [hg_83.2.1 134 (by decide +kernel) (by decide +kernel)]
        have tt_91 : (I_81 197 this_scanner).toInt = (I_3 197 this_scanner).toInt := by rw [hg_83.2.1 197 (by decide +kernel) (by decide +kernel)]
        have tt_92 : (I_81 194 this_scanner).toInt = (I_3 194 this_scanner).toInt := by rw [hg_83.2.1 194 (by decide +kernel) (by decide +kernel)]
        refine lv_goto (tgt := 68) hx hb dX4_readNumber_43 (by decide +kernel) ?_
        subst hQ
        exact W.vret hx hb hr (fun t1 ht hW => ⟨⟨(σ, I_81, J, ri, rj, rq), rfl, ⟨I_81, ri, rfl, hG, (by omega), (fun _ _ => rfl), (hF0.symm.trans hF), hFr⟩, by rw [ht]; exact hP, va_K.moved hW.alike hK, hD⟩, hS.F ht⟩) hS.2.2 dX4_readNumber_68
    · replace hF := hF.trans (if_neg c_17)
      have tc_93 : (I_3 194 this_scanner).toInt ≠ 18 := fun q => c_17 (Int32.toInt_inj.mp q)
      refine lv_aload_n hx hb dX4_readNumber_19 rfl (lv_at hl 0 rfl) ?_
      refine lv_iconst (v := 1) hx hb dX4_readNumber_20 (by decide +kernel) ?_
      refine pk_v (va_runV (As := [.int 1]) (rest := []) ⟨hx, hb, hml, hown, hts⟩ (s_X4_refuse l D t σ I_3 J ri rj rq H.size tg hSH hG.1 this (1 : Int32) hL_this hK_this (rg_w (rg_k (1 : Int32) 1 rfl) (by decide +kernel))) (cwV 1 hts (tw_V tw_748 tw_749 tw_750 tw_25 tw_751) rfl rfl rfl cv_yX4_refuse_1 ⟨Nat.le_of_ble_eq_true rfl, Nat.le_of_ble_eq_true rfl⟩) ⟨pq_blind, pq_recv hK hP hL_this hK_this (by decide +kernel) rfl, pq_pre hK hN hP hD⟩ rfl rfl hl.1 rfl (lv_room (Nat.le_of_ble_eq_true rfl)) dX4_readNumber_21 ⟨Nat.le_of_ble_eq_true rfl, Nat.le_of_ble_eq_true rfl⟩) hD hS hA (fun σ1 μ1 H locs hw_95 hP hD hS => ?_)
      obtain ⟨I_96, hu_97, hg_98, hp_100, hfn_101, hfr_102⟩ := hw_95
      obtain ⟨hu_97a, hu_97b⟩ := Prod.mk.inj hu_97
      rw [hu_97a, hu_97b] at hP hD
      replace hF := hF.trans (bv_n hfn_101)
      replace hFr := fr_tr hFr hfr_102
      have tt_103 := hp_100
      have hG := GX.tr hG hg_98 (by decide +kernel)
      have tt_104 : (I_96 132 this).toInt = (I_3 132 this).toInt := by rw [hg_98.2.1 132 (by decide +kernel) (by decide +kernel)]
      have tt_105 : (I_96 134 this).toInt = (I_3 134 this).toInt := by rw [hg_98.2.1 134 (by decide +kernel) (by decide +kernel)]
      have tt_106 : (I_96 197 this_scanner).toInt = (I_3 197 this_scanner).toInt := by rw [hg_98.2.1 197 (by decide +kernel) (by decide +kernel)]
      have tt_107 : (I_96 194 this_scanner).toInt = (I_3 194 this_scanner).toInt := by rw [hg_98.2.1 194 (by decide +kernel) (by decide +kernel)]
      refine lv_goto (tgt := 68) hx hb dX4_readNumber_24 (by decide +kernel) ?_
      subst hQ
      exact W.vret hx hb hr (fun t1 ht hW => ⟨⟨(σ, I_96, J, ri, rj, rq), rfl, ⟨I_96, ri, rfl, hG, (by omega), (fun _ _ => rfl), (hF0.symm.trans hF), hFr⟩, by rw [ht]; exact hP, va_K.moved hW.alike hK, hD⟩, hS.F ht⟩) hS.2.2 dX4_readNumber_68
  exact go _ _ _ hP hD hS hl

set_option maxRecDepth 100000 in
def g_X4_readKey (a0 : Int32) (I : Nat → Int32) (J : Nat → Int64) (ri : Nat → Nat → Int32) (rj : Nat → Nat → Int64) (rq : Nat → Nat → Option Nat) : vM := (ap1 (I 194) fun (y_1 : Int32) => (if (y_1) = (26 : Int32) then (if a0 < (4 : Int32) then (bnV (g_X6_advance I J ri rj rq) fun (I_137 : Nat → Int32) (_ : Nat → Int64) (_ : Nat → Nat → Int32) (_ : Nat → Nat → Int64) (_ : Nat → Nat → Option Nat) => (ap1 (I_137 194) fun (y_150 : Int32) => (ap1 (g_X4_isName (y_150)) fun (x_151 : Int32) => (if x_151 = (0 : Int32) then (bnV (g_X4_refuse (1 : Int32) I_137 J ri rj rq) fun (I_194 : Nat → Int32) (_ : Nat → Int64) (_ : Nat → Nat → Int32) (_ : Nat → Nat → Int64) (_ : Nat → Nat → Option Nat) => (ap1 (I_194 194) fun (y_207 : Int32) => (ap1 (-(y_207)) fun (x_208 : Int32) => (bnV (g_X4_emit x_208 I_194 J ri rj rq) fun (I_211 : Nat → Int32) (_ : Nat → Int64) (ri_212 : Nat → Nat → Int32) (_ : Nat → Nat → Int64) (_ : Nat → Nat → Option Nat) => (I_211, J, ri_212, rj, rq))))) else (ap1 (-(y_150)) fun (x_170 : Int32) => (bnV (g_X4_emit x_170 I_137 J ri rj rq) fun (I_174 : Nat → Int32) (_ : Nat → Int64) (ri_175 : Nat → Nat → Int32) (_ : Nat → Nat → Int64) (_ : Nat → Nat → Option Nat) => (I_174, J, ri_175, rj, rq))))))) else (bnV (g_X4_refuse (5 : Int32) I J ri rj rq) fun (I_230 : Nat → Int32) (_ : Nat → Int64) (_ : Nat → Nat → Int32) (_ : Nat → Nat → Int64) (_ : Nat → Nat → Option Nat) => (ap1 (I_230 194) fun (y_244 : Int32) => (ap1 (-(y_244)) fun (x_245 : Int32) => (bnV (g_X4_emit x_245 I_230 J ri rj rq) fun (I_249 : Nat → Int32) (_ : Nat → Int64) (ri_250 : Nat → Nat → Int32) (_ : Nat → Nat → Int64) (_ : Nat → Nat → Option Nat) => (I_249, J, ri_250, rj, rq)))))) else (ap1 (g_X4_isName (y_1)) fun (x_8 : Int32) => (if x_8 = (0 : Int32) then (bnV (g_X4_refuse (1 : Int32) I J ri rj rq) fun (I_93 : Nat → Int32) (_ : Nat → Int64) (_ : Nat → Nat → Int32) (_ : Nat → Nat → Int64) (_ : Nat → Nat → Option Nat) => (ap1 (I_93 194) fun (y_106 : Int32) => (bnV (g_X4_emit (y_106) I_93 J ri rj rq) fun (I_109 : Nat → Int32) (_ : Nat → Int64) (ri_110 : Nat → Nat → Int32) (_ : Nat → Nat → Int64) (_ : Nat → Nat → Option Nat) => (I_109, J, ri_110, rj, rq)))) else (if a0 < (4 : Int32) then (bnV (g_X4_emit (y_1) I J ri rj rq) fun (I_37 : Nat → Int32) (_ : Nat → Int64) (ri_38 : Nat → Nat → Int32) (_ : Nat → Nat → Int64) (_ : Nat → Nat → Option Nat) => (I_37, J, ri_38, rj, rq)) else (bnV (g_X4_refuse (5 : Int32) I J ri rj rq) fun (I_56 : Nat → Int32) (_ : Nat → Int64) (_ : Nat → Nat → Int32) (_ : Nat → Nat → Int64) (_ : Nat → Nat → Option Nat) => (ap1 (I_56 194) fun (y_70 : Int32) => (bnV (g_X4_emit (y_70) I_56 J ri rj rq) fun (I_73 : Nat → Int32) (_ : Nat → Int64) (ri_74 : Nat → Nat → Int32) (_ : Nat → Nat → Int64) (_ : Nat → Nat → Option Nat) => (I_73, J, ri_74, rj, rq)))))))))
set_option maxRecDepth 100000 in
theorem g_X4_readKey_e {a0 : Int32} {I : Nat → Int32} {J : Nat → Int64} {ri : Nat → Nat → Int32} {rj : Nat → Nat → Int64} {rq : Nat → Nat → Option Nat} : g_X4_readKey a0 I J ri rj rq = (ap1 (I 194) fun (y_1 : Int32) => (if (y_1) = (26 : Int32) then (if a0 < (4 : Int32) then (bnV (g_X6_advance I J ri rj rq) fun (I_137 : Nat → Int32) (_ : Nat → Int64) (_ : Nat → Nat → Int32) (_ : Nat → Nat → Int64) (_ : Nat → Nat → Option Nat) => (ap1 (I_137 194) fun (y_150 : Int32) => (ap1 (g_X4_isName (y_150)) fun (x_151 : Int32) => (if x_151 = (0 : Int32) then (bnV (g_X4_refuse (1 : Int32) I_137 J ri rj rq) fun (I_194 : Nat → Int32) (_ : Nat → Int64) (_ : Nat → Nat → Int32) (_ : Nat → Nat → Int64) (_ : Nat → Nat → Option Nat) => (ap1 (I_194 194) fun (y_207 : Int32) => (ap1 (-(y_207)) fun (x_208 : Int32) => (bnV (g_X4_emit x_208 I_194 J ri rj rq) fun (I_211 : Nat → Int32) (_ : Nat → Int64) (ri_212 : Nat → Nat → Int32) (_ : Nat → Nat → Int64) (_ : Nat → Nat → Option Nat) => (I_211, J, ri_212, rj, rq))))) else (ap1 (-(y_150)) fun (x_170 : Int32) => (bnV (g_X4_emit x_170 I_137 J ri rj rq) fun (I_174 : Nat → Int32) (_ : Nat → Int64) (ri_175 : Nat → Nat → Int32) (_ : Nat → Nat → Int64) (_ : Nat → Nat → Option Nat) => (I_174, J, ri_175, rj, rq))))))) else (bnV (g_X4_refuse (5 : Int32) I J ri rj rq) fun (I_230 : Nat → Int32) (_ : Nat → Int64) (_ : Nat → Nat → Int32) (_ : Nat → Nat → Int64) (_ : Nat → Nat → Option Nat) => (ap1 (I_230 194) fun (y_244 : Int32) => (ap1 (-(y_244)) fun (x_245 : Int32) => (bnV (g_X4_emit x_245 I_230 J ri rj rq) fun (I_249 : Nat → Int32) (_ : Nat → Int64) (ri_250 : Nat → Nat → Int32) (_ : Nat → Nat → Int64) (_ : Nat → Nat → Option Nat) => (I_249, J, ri_250, rj, rq)))))) else (ap1 (g_X4_isName (y_1)) fun (x_8 : Int32) => (if x_8 = (0 : Int32) then (bnV (g_X4_refuse (1 : Int32) I J ri rj rq) fun (I_93 : Nat → Int32) (_ : Nat → Int64) (_ : Nat → Nat → Int32) (_ : Nat → Nat → Int64) (_ : Nat → Nat → Option Nat) => (ap1 (I_93 194) fun (y_106 : Int32) => (bnV (g_X4_emit (y_106) I_93 J ri rj rq) fun (I_109 : Nat → Int32) (_ : Nat → Int64) (ri_110 : Nat → Nat → Int32) (_ : Nat → Nat → Int64) (_ : Nat → Nat → Option Nat) => (I_109, J, ri_110, rj, rq)))) else (if a0 < (4 : Int32) then (bnV (g_X4_emit (y_1) I J ri rj rq) fun (I_37 : Nat → Int32) (_ : Nat → Int64) (ri_38 : Nat → Nat → Int32) (_ : Nat → Nat → Int64) (_ : Nat → Nat → Option Nat) => (I_37, J, ri_38, rj, rq)) else (bnV (g_X4_refuse (5 : Int32) I J ri rj rq) fun (I_56 : Nat → Int32) (_ : Nat → Int64) (_ : Nat → Nat → Int32) (_ : Nat → Nat → Int64) (_ : Nat → Nat → Option Nat) => (ap1 (I_56 194) fun (y_70 : Int32) => (bnV (g_X4_emit (y_70) I_56 J ri rj rq) fun (I_73 : Nat → Int32) (_ : Nat → Int64) (ri_74 : Nat → Nat → Int32) (_ : Nat → Nat → Int64) (_ : Nat → Nat → Option Nat) => (I_73, J, ri_74, rj, rq))))))))) := rfl
set_option maxHeartbeats 4000000 in
set_option maxRecDepth 100000 in
theorem s_X4_readKey (l : Launch) (D : va_G) (t : pq_T) (σ : pq_S) (I : Nat → Nat → Int32) (J : Nat → Nat → Int64) (ri : Nat → Nat → Int32) (rj : Nat → Nat → Int64) (rq : Nat → Nat → Option Nat) (sz : Nat) (aK aV : Nat) (vF : Value) (tg : Nat → Nat) (hSH : SH σ tg) (hG0 : GS tg σ I ri rq) (this : Nat) (a0 : Int32) (hL_this : this ∈ σ.1) (hK_this : σ.2.1 this = 4) (this_scanner : Nat) (hR_this_scanner : σ.2.2.1 128 this = some this_scanner) (hL_this_scanner : this_scanner ∈ σ.1) (hK_this_scanner : σ.2.1 this_scanner = 6) : MetVS aK aV vF l yX4_readKey (wa yX4_readKey cX4_readKey 3 none) ({ frames := 6, cells := 0, slots := 0, locals := 129 }) [.ref this, .int a0] D t σ (I, J, ri, rj, rq) sz 0 0 (fun (u : pq_S × pq_M) => ∃ I' : Nat → Nat → Int32, ∃ ri' : Nat → Nat → Int32, u = (σ, I', J, ri', rj, rq) ∧ GX [132, 129, 197, 194] tg σ I ri rj I' ri' rj rq ∧ ((I' 132 this).toInt ≤ (I 132 this).toInt + 1 ∧ (I 197 this_scanner).toInt ≤ (I' 197 this_scanner).toInt ∧ ((I' 129 this).toInt = 0 → (I 194 this_scanner).toInt ≠ 33)) ∧ (∀ q, tg q = 258 → ri' q = ri q) ∧ g_X4_readKey a0 (vI 4 σ this I) (vJ 4 σ this J) (vR 4 σ this ri) (vL 4 σ this rj) (vQ 4 σ this rq) = ((vI 4 σ this I'), (vJ 4 σ this J), (vR 4 σ this ri'), (vL 4 σ this rj), (vQ 4 σ this rq)) ∧ FR 4 tg σ this (I, J, ri, rj, rq) (I', J, ri', rj, rq)) := by
  refine Met.ofW (cc := cX4_readKey) (maxL := 3) (ret := none) (by decide +kernel) rfl ?_
  intro p e s m args below meth c s₁ B hml hv
  obtain ⟨rfl, ⟨hsz, hP, hK, hD0, hN⟩, hW0⟩ := hv
  have hx := B.exec
  have hb := B.bytes
  have hr := B.returns
  have hts := atoms_spec (ws := (wa yX4_readKey cX4_readKey 3 none)) B.pre
  have hown : s.vm.findClass RX4 = some m.cls := findClass_of_methodNamed B.named
  have hlocks := B.notSynchronized
  subst hsz
  have hD : va_D (pq_B t σ (I, J, ri, rj, rq) s.heap.size) (pq_P t σ (I, J, ri, rj, rq)) := hD0.self
  generalize hAe : pq_B t σ (I, J, ri, rj, rq) s.heap.size = A at hD hW0 ⊢
  have hA : ∀ q : Nat, s.heap.size ≤ q → A q := fun q h => by rw [← hAe]; exact Or.inr h
  have hS : va_S A s.heap s.heap [] := va_S.rf
  have hG : GX [132, 129, 197, 194] tg σ I ri rj I ri rj rq := ⟨hG0, fun _ _ _ => rfl, fun _ _ _ _ _ => rfl, fun _ _ _ _ _ => rfl⟩
  have hl := lv_entry ([.ref this, .int a0]) (n := 3) (Nat.le_of_ble_eq_true rfl)
  rw [lg_entry_eq]
  generalize (lg_sl ([.ref this, .int a0]) ++ List.replicate (3 - (lg_sl ([.ref this, .int a0])).length) Slot.unset).toArray = ls at hl ⊢
  have hl : lv_has ls 3 [(0, .ref this), (1, .int a0)] := hl
  refine q_gen (fun Q hQ => ?_)
  have go : ∀ (H : Heap) (locs : List Loc) (ls : Array Slot), va_P D vwCl (pq_P t σ (I, J, ri, rj, rq)) H → va_D A (pq_P t σ (I, J, ri, rj, rq)) → va_S A s.heap H locs → lv_has ls 3 [(0, .ref this), (1, .int a0)] → W p l e ({ frames := 6, cells := 0, slots := 0, locals := 129 } : Room) s m (List.toArray ([.ref this, .int a0] : List Value)) below meth c H locs 0 0 Q (F0 m 0 ls []) := by
    intro H locs ls hP hD hS hl
    have hO_this : this = vo σ 4 this := rfl
    have hVT : VT 4 σ tg this := vt_4 hSH hL_this hK_this
    have hFr : FR 4 tg σ this (I, J, ri, rj, rq) (I, J, ri, rj, rq) := fr_rf
    have hO_this_scanner : this_scanner = vo σ 6 this := vo_k (c := 4) hO_this hR_this_scanner
    obtain ⟨F, hF0⟩ : ∃ F, F = g_X4_readKey a0 (vI 4 σ this I) (vJ 4 σ this J) (vR 4 σ this ri) (vL 4 σ this rj) (vQ 4 σ this rq) := ⟨_, rfl⟩
    have hF := hF0.trans g_X4_readKey_e
    refine lv_aload_n hx hb dX4_readKey_0 rfl (lv_at hl 0 rfl) ?_
    refine pg_f (v := .ref this_scanner) (C := RX4) (T := TX4) (N := 12) hx hb hts (tw_i inlX4) hown hK hP hL_this hK_this (by decide +kernel) rfl 0 (by decide +kernel) (hts _ (tw_c tw_154)) (pq_hv rfl hR_this_scanner) dX4_readKey_1 ?_
    refine pg_f (v := .int (I 194 this_scanner)) (C := RX6) (T := TX6) (N := 6) hx hb hts (tw_i inlX6) hown hK hP hL_this_scanner hK_this_scanner (by decide +kernel) rfl 2 (by decide +kernel) (hts _ (tw_c tw_657)) rfl dX4_readKey_4 ?_
    replace hF := hF.trans (ap_n (vI_e (f := 194) hO_this_scanner (by decide +kernel)))
    refine lv_bipush (v := 26) hx hb dX4_readKey_7 (by decide +kernel) ?_
    refine lv_icmp_ne (tgt := 16) hx hb dX4_readKey_9 (by decide +kernel) (fun c_2 => ?_) (fun c_2 => ?_)
    · replace hF := hF.trans (if_neg c_2)
      have tc_6 : (I 194 this_scanner).toInt ≠ 26 := fun q => c_2 (Int32.toInt_inj.mp q)
      refine lv_iconst (v := 0) hx hb dX4_readKey_16 (by decide +kernel) ?_
      refine lv_istore_n (lv' := [(2, .int 0), (0, .ref this), (1, .int a0)]) hx hb dX4_readKey_17 rfl hl (by decide +kernel) rfl (fun ls hl => ?_)
      refine lv_iload_n hx hb dX4_readKey_18 rfl (lv_at hl 0 rfl) ?_
      refine lv_if_ne (tgt := 43) hx hb dX4_readKey_19 (by decide +kernel) (fun c_7 => absurd c_7 (by decide +kernel)) (fun c_7 => ?_)
      refine lv_aload_n hx hb dX4_readKey_22 rfl (lv_at hl 1 rfl) ?_
      refine pg_f (v := .ref this_scanner) (C := RX4) (T := TX4) (N := 12) hx hb hts (tw_i inlX4) hown hK hP hL_this hK_this (by decide +kernel) rfl 0 (by decide +kernel) (hts _ (tw_c tw_154)) (pq_hv rfl hR_this_scanner) dX4_readKey_23 ?_
      refine pg_f (v := .int (I 194 this_scanner)) (C := RX6) (T := TX6) (N := 6) hx hb hts (tw_i inlX6) hown hK hP hL_this_scanner hK_this_scanner (by decide +kernel) rfl 2 (by decide +kernel) (hts _ (tw_c tw_657)) rfl dX4_readKey_26 ?_
      refine pk_i (va_runS (As := [.int (I 194 this_scanner)]) (rest := []) ⟨hx, hb, hml, hown, hts⟩ (s_X4_isName l D t σ I J ri rj rq H.size tg hSH hG.1 (I 194 this_scanner)) (va_cwS 1 hts (tw_S tw_774 tw_775 tw_25 tw_776) rfl rfl rfl cd_yX4_isName_1 ⟨Nat.le_of_ble_eq_true rfl, Nat.le_of_ble_eq_true rfl⟩) ⟨pq_blind, pq_pre hK hN hP hD⟩ rfl rfl hl.1 rfl (lv_room (Nat.le_of_ble_eq_true rfl)) dX4_readKey_29 ⟨Nat.le_of_ble_eq_true rfl, Nat.le_of_ble_eq_true rfl⟩) hD hS hA (fun x_8 σ1 μ1 H locs hw_9 hP hD hS => ?_)
      obtain ⟨hu_10, hfn_13, hr_12⟩ := hw_9
      obtain ⟨hu_10a, hu_10b⟩ := Prod.mk.inj hu_10
      rw [hu_10a, hu_10b] at hP hD
      replace hF := hF.trans (ap_n hfn_13.symm)
      have h_15 : rg x_8 0 1 := by rcases hr_12 with ⟨q, -⟩ | ⟨q, -⟩ <;> rw [q] <;> exact ⟨by decide +kernel, by decide +kernel⟩
      have uh_15 := h_15.1
      have vh_15 := h_15.2
      refine lv_if_ne (tgt := 43) hx hb dX4_readKey_32 (by decide +kernel) (fun c_16 => ?_) (fun c_16 => ?_)
      · replace hF := hF.trans (if_neg c_16)
        have f_23 := (hr_12.resolve_right (fun q => c_16 q.1)).2
        have uf_23 := f_23.1
        have vf_23 := f_23.2
        have tc_24 : (x_8).toInt ≠ 0 := fun q => c_16 (Int32.toInt_inj.mp q)
        have h_25 : rg x_8 1 1 := rg_ne c_16 h_15 0 rfl (by decide +kernel)
        have uh_25 := h_25.1
        have vh_25 := h_25.2
        refine lv_iload_n hx hb dX4_readKey_43 rfl (lv_at hl 2 rfl) ?_
        refine lv_iconst (v := 4) hx hb dX4_readKey_44 (by decide +kernel) ?_
        refine lv_icmp_lt (tgt := 56) hx hb dX4_readKey_45 (by decide +kernel) (fun c_26 => ?_) (fun c_26 => ?_)
        · replace hF := hF.trans (if_pos c_26)
          have tc_31 : (a0).toInt < 4 := Int32.lt_iff_toInt_lt.mp c_26
          have h_32 : rg a0 (-2147483648) 3 := rg_lt1 c_26 (rg_full _) (rg_k (4 : Int32) 4 rfl) (by decide +kernel)
          have uh_32 := h_32.1
          have vh_32 := h_32.2
          refine lv_iload_n hx hb dX4_readKey_56 rfl (lv_at hl 0 rfl) ?_
          refine lv_if_eq (tgt := 85) hx hb dX4_readKey_57 (by decide +kernel) (fun c_33 => ?_) (fun c_33 => absurd c_33 (by decide +kernel))
          refine lv_aload_n hx hb dX4_readKey_85 rfl (lv_at hl 1 rfl) ?_
          refine lv_iload_n hx hb dX4_readKey_86 rfl (lv_at hl 0 rfl) ?_
          refine lv_if_eq (tgt := 101) hx hb dX4_readKey_87 (by decide +kernel) (fun c_34 => ?_) (fun c_34 => absurd c_34 (by decide +kernel))
          refine lv_aload_n hx hb dX4_readKey_101 rfl (lv_at hl 1 rfl) ?_
          refine pg_f (v := .ref this_scanner) (C := RX4) (T := TX4) (N := 12) hx hb hts (tw_i inlX4) hown hK hP hL_this hK_this (by decide +kernel) rfl 0 (by decide +kernel) (hts _ (tw_c tw_154)) (pq_hv rfl hR_this_scanner) dX4_readKey_102 ?_
          refine pg_f (v := .int (I 194 this_scanner)) (C := RX6) (T := TX6) (N := 6) hx hb hts (tw_i inlX6) hown hK hP hL_this_scanner hK_this_scanner (by decide +kernel) rfl 2 (by decide +kernel) (hts _ (tw_c tw_657)) rfl dX4_readKey_105 ?_
          refine pk_v (va_runV (As := [.int (I 194 this_scanner)]) (rest := []) ⟨hx, hb, hml, hown, hts⟩ (s_X4_emit l D t σ I J ri rj rq H.size tg hSH hG.1 this (I 194 this_scanner) hL_this hK_this) (cwV 1 hts (tw_V tw_769 tw_770 tw_771 tw_25 tw_772) rfl rfl rfl cv_yX4_emit_1 ⟨Nat.le_of_ble_eq_true rfl, Nat.le_of_ble_eq_true rfl⟩) ⟨pq_blind, pq_recv hK hP hL_this hK_this (by decide +kernel) rfl, pq_pre hK hN hP hD⟩ rfl rfl hl.1 rfl (lv_room (Nat.le_of_ble_eq_true rfl)) dX4_readKey_108 ⟨Nat.le_of_ble_eq_true rfl, Nat.le_of_ble_eq_true rfl⟩) hD hS hA (fun σ1 μ1 H locs hw_36 hP hD hS => ?_)
          obtain ⟨I_37, ri_38, hu_39, hg_40, hp_42, hp_43, hfn_44, hfr_45⟩ := hw_36
          obtain ⟨hu_39a, hu_39b⟩ := Prod.mk.inj hu_39
          rw [hu_39a, hu_39b] at hP hD
          replace hF := hF.trans (bv_n hfn_44)
          replace hFr := fr_tr hFr hfr_45
          have tt_46 := hp_42
          have tt_47 := hp_43
          have hG := GX.tr hG hg_40 (by decide +kernel)
          have tt_48 : (I_37 134 this).toInt = (I 134 this).toInt := by rw [hg_40.2.1 134 (by decide +kernel) (by decide +kernel)]
          have tt_49 : (I_37 129 this).toInt = (I 129 this).toInt := by rw [hg_40.2.1 129 (by decide +kernel) (by decide +kernel)]
          have tt_50 : (I_37 197 this_scanner).toInt = (I 197 this_scanner).toInt := by rw [hg_40.2.1 197 (by decide +kernel) (by decide +kernel)]
          have tt_51 : (I_37 194 this_scanner).toInt = (I 194 this_scanner).toInt := by rw [hg_40.2.1 194 (by decide +kernel) (by decide +kernel)]
          subst hQ
          exact W.vret hx hb hr (fun t1 ht hW => ⟨⟨(σ, I_37, J, ri_38, rj, rq), rfl, ⟨I_37, ri_38, rfl, hG, (by omega), (ft_t (fun _ _ => rfl) hp_43), (hF0.symm.trans hF), hFr⟩, by rw [ht]; exact hP, va_K.moved hW.alike hK, hD⟩, hS.F ht⟩) hS.2.2 dX4_readKey_111
        · replace hF := hF.trans (if_neg c_26)
          have tc_52 : 4 ≤ (a0).toInt := Int32.le_iff_toInt_le.mp (nlt c_26)
          have h_53 : rg a0 4 2147483647 := rg_le2 (nlt c_26) (rg_k (4 : Int32) 4 rfl) (rg_full _) (by decide +kernel)
          have uh_53 := h_53.1
          have vh_53 := h_53.2
          refine lv_aload_n hx hb dX4_readKey_48 rfl (lv_at hl 1 rfl) ?_
          refine lv_iconst (v := 5) hx hb dX4_readKey_49 (by decide +kernel) ?_
          refine pk_v (va_runV (As := [.int 5]) (rest := []) ⟨hx, hb, hml, hown, hts⟩ (s_X4_refuse l D t σ I J ri rj rq H.size tg hSH hG.1 this (5 : Int32) hL_this hK_this (rg_w (rg_k (5 : Int32) 5 rfl) (by decide +kernel))) (cwV 1 hts (tw_V tw_748 tw_749 tw_750 tw_25 tw_751) rfl rfl rfl cv_yX4_refuse_1 ⟨Nat.le_of_ble_eq_true rfl, Nat.le_of_ble_eq_true rfl⟩) ⟨pq_blind, pq_recv hK hP hL_this hK_this (by decide +kernel) rfl, pq_pre hK hN hP hD⟩ rfl rfl hl.1 rfl (lv_room (Nat.le_of_ble_eq_true rfl)) dX4_readKey_50 ⟨Nat.le_of_ble_eq_true rfl, Nat.le_of_ble_eq_true rfl⟩) hD hS hA (fun σ1 μ1 H locs hw_55 hP hD hS => ?_)
          obtain ⟨I_56, hu_57, hg_58, hp_60, hfn_61, hfr_62⟩ := hw_55
          obtain ⟨hu_57a, hu_57b⟩ := Prod.mk.inj hu_57
          rw [hu_57a, hu_57b] at hP hD
          replace hF := hF.trans (bv_n hfn_61)
          replace hFr := fr_tr hFr hfr_62
          have tt_63 := hp_60
          have hG := GX.tr hG hg_58 (by decide +kernel)
          have tt_64 : (I_56 132 this).toInt = (I 132 this).toInt := by rw [hg_58.2.1 132 (by decide +kernel) (by decide +kernel)]
          have tt_65 : (I_56 134 this).toInt = (I 134 this).toInt := by rw [hg_58.2.1 134 (by decide +kernel) (by decide +kernel)]
          have tt_66 : (I_56 197 this_scanner).toInt = (I 197 this_scanner).toInt := by rw [hg_58.2.1 197 (by decide +kernel) (by decide +kernel)]
          have tt_67 : (I_56 194 this_scanner).toInt = (I 194 this_scanner).toInt := by rw [hg_58.2.1 194 (by decide +kernel) (by decide +kernel)]
          refine lv_goto (tgt := 85) hx hb dX4_readKey_53 (by decide +kernel) ?_
          refine lv_aload_n hx hb dX4_readKey_85 rfl (lv_at hl 1 rfl) ?_
          refine lv_iload_n hx hb dX4_readKey_86 rfl (lv_at hl 0 rfl) ?_
          refine lv_if_eq (tgt := 101) hx hb dX4_readKey_87 (by decide +kernel) (fun c_68 => ?_) (fun c_68 => absurd c_68 (by decide +kernel))
          refine lv_aload_n hx hb dX4_readKey_101 rfl (lv_at hl 1 rfl) ?_
          refine pg_f (v := .ref this_scanner) (C := RX4) (T := TX4) (N := 12) hx hb hts (tw_i inlX4) hown hK hP hL_this hK_this (by decide +kernel) rfl 0 (by decide +kernel) (hts _ (tw_c tw_154)) (pq_hv rfl hR_this_scanner) dX4_readKey_102 ?_
          refine pg_f (v := .int (I_56 194 this_scanner)) (C := RX6) (T := TX6) (N := 6) hx hb hts (tw_i inlX6) hown hK hP hL_this_scanner hK_this_scanner (by decide +kernel) rfl 2 (by decide +kernel) (hts _ (tw_c tw_657)) rfl dX4_readKey_105 ?_
          have h_69 : rg (I_56 194 this_scanner) 12 17 := (by rw [hg_58.2.1 194 (by decide +kernel) (by decide +kernel)]; exact f_23)
          have uh_69 := h_69.1
          have vh_69 := h_69.2
          replace hF := hF.trans (ap_n (vI_e (f := 194) hO_this_scanner (by decide +kernel)))
          refine pk_v (va_runV (As := [.int (I_56 194 this_scanner)]) (rest := []) ⟨hx, hb, hml, hown, hts⟩ (s_X4_emit l D t σ I_56 J ri rj rq H.size tg hSH hG.1 this (I_56 194 this_scanner) hL_this hK_this) (cwV 1 hts (tw_V tw_769 tw_770 tw_771 tw_25 tw_772) rfl rfl rfl cv_yX4_emit_1 ⟨Nat.le_of_ble_eq_true rfl, Nat.le_of_ble_eq_true rfl⟩) ⟨pq_blind, pq_recv hK hP hL_this hK_this (by decide +kernel) rfl, pq_pre hK hN hP hD⟩ rfl rfl hl.1 rfl (lv_room (Nat.le_of_ble_eq_true rfl)) dX4_readKey_108 ⟨Nat.le_of_ble_eq_true rfl, Nat.le_of_ble_eq_true rfl⟩) hD hS hA (fun σ1 μ1 H locs hw_72 hP hD hS => ?_)
          obtain ⟨I_73, ri_74, hu_75, hg_76, hp_78, hp_79, hfn_80, hfr_81⟩ := hw_72
          obtain ⟨hu_75a, hu_75b⟩ := Prod.mk.inj hu_75
          rw [hu_75a, hu_75b] at hP hD
          replace hF := hF.trans (bv_n hfn_80)
          replace hFr := fr_tr hFr hfr_81
          have tt_82 := hp_78
          have tt_83 := hp_79
          have hG := GX.tr hG hg_76 (by decide +kernel)
          have tt_84 : (I_73 134 this).toInt = (I_56 134 this).toInt := by rw [hg_76.2.1 134 (by decide +kernel) (by decide +kernel)]
          have tt_85 : (I_73 129 this).toInt = (I_56 129 this).toInt := by rw [hg_76.2.1 129 (by decide +kernel) (by decide +kernel)]
          have tt_86 : (I_73 197 this_scanner).toInt = (I_56 197 this_scanner).toInt := by rw [hg_76.2.1 197 (by decide +kernel) (by decide +kernel)]
          have tt_87 : (I_73 194 this_scanner).toInt = (I_56 194 this_scanner).toInt := by rw [hg_76.2.1 194 (by decide +kernel) (by decide +kernel)]
          subst hQ
          exact W.vret hx hb hr (fun t1 ht hW => ⟨⟨(σ, I_73, J, ri_74, rj, rq), rfl, ⟨I_73, ri_74, rfl, hG, (by omega), (ft_t (fun _ _ => rfl) hp_79), (hF0.symm.trans hF), hFr⟩, by rw [ht]; exact hP, va_K.moved hW.alike hK, hD⟩, hS.F ht⟩) hS.2.2 dX4_readKey_111
      · replace hF := hF.trans (if_pos c_16)
        have f_88 := (hr_12.resolve_left (fun q => absurd (q.1.symm.trans c_16) (by decide +kernel))).2
        have tc_89 : (x_8).toInt = 0 := congrArg Int32.toInt c_16
        have h_90 : rg x_8 0 0 := rg_and h_15 (rg_of_eq c_16 (rg_k (0 : Int32) 0 rfl)) (by decide +kernel)
        have uh_90 := h_90.1
        have vh_90 := h_90.2
        refine lv_aload_n hx hb dX4_readKey_35 rfl (lv_at hl 1 rfl) ?_
        refine lv_iconst (v := 1) hx hb dX4_readKey_36 (by decide +kernel) ?_
        refine pk_v (va_runV (As := [.int 1]) (rest := []) ⟨hx, hb, hml, hown, hts⟩ (s_X4_refuse l D t σ I J ri rj rq H.size tg hSH hG.1 this (1 : Int32) hL_this hK_this (rg_w (rg_k (1 : Int32) 1 rfl) (by decide +kernel))) (cwV 1 hts (tw_V tw_748 tw_749 tw_750 tw_25 tw_751) rfl rfl rfl cv_yX4_refuse_1 ⟨Nat.le_of_ble_eq_true rfl, Nat.le_of_ble_eq_true rfl⟩) ⟨pq_blind, pq_recv hK hP hL_this hK_this (by decide +kernel) rfl, pq_pre hK hN hP hD⟩ rfl rfl hl.1 rfl (lv_room (Nat.le_of_ble_eq_true rfl)) dX4_readKey_37 ⟨Nat.le_of_ble_eq_true rfl, Nat.le_of_ble_eq_true rfl⟩) hD hS hA (fun σ1 μ1 H locs hw_92 hP hD hS => ?_)
        obtain ⟨I_93, hu_94, hg_95, hp_97, hfn_98, hfr_99⟩ := hw_92
        obtain ⟨hu_94a, hu_94b⟩ := Prod.mk.inj hu_94
        rw [hu_94a, hu_94b] at hP hD
        replace hF := hF.trans (bv_n hfn_98)
        replace hFr := fr_tr hFr hfr_99
        have tt_100 := hp_97
        have hG := GX.tr hG hg_95 (by decide +kernel)
        have tt_101 : (I_93 132 this).toInt = (I 132 this).toInt := by rw [hg_95.2.1 132 (by decide +kernel) (by decide +kernel)]
        have tt_102 : (I_93 134 this).toInt = (I 134 this).toInt := by rw [hg_95.2.1 134 (by decide +kernel) (by decide +kernel)]
        have tt_103 : (I_93 197 this_scanner).toInt = (I 197 this_scanner).toInt := by rw [hg_95.2.1 197 (by decide +kernel) (by decide +kernel)]
        have tt_104 : (I_93 194 this_scanner).toInt = (I 194 this_scanner).toInt := by rw [hg_95.2.1 194 (by decide +kernel) (by decide +kernel)]
        refine lv_goto (tgt := 85) hx hb dX4_readKey_40 (by decide +kernel) ?_
        refine lv_aload_n hx hb dX4_readKey_85 rfl (lv_at hl 1 rfl) ?_
        refine lv_iload_n hx hb dX4_readKey_86 rfl (lv_at hl 0 rfl) ?_
        refine lv_if_eq (tgt := 101) hx hb dX4_readKey_87 (by decide +kernel) (fun c_105 => ?_) (fun c_105 => absurd c_105 (by decide +kernel))
        refine lv_aload_n hx hb dX4_readKey_101 rfl (lv_at hl 1 rfl) ?_
        refine pg_f (v := .ref this_scanner) (C := RX4) (T := TX4) (N := 12) hx hb hts (tw_i inlX4) hown hK hP hL_this hK_this (by decide +kernel) rfl 0 (by decide +kernel) (hts _ (tw_c tw_154)) (pq_hv rfl hR_this_scanner) dX4_readKey_102 ?_
        refine pg_f (v := .int (I_93 194 this_scanner)) (C := RX6) (T := TX6) (N := 6) hx hb hts (tw_i inlX6) hown hK hP hL_this_scanner hK_this_scanner (by decide +kernel) rfl 2 (by decide +kernel) (hts _ (tw_c tw_657)) rfl dX4_readKey_105 ?_
        replace hF := hF.trans (ap_n (vI_e (f := 194) hO_this_scanner (by decide +kernel)))
        refine pk_v (va_runV (As := [.int (I_93 194 this_scanner)]) (rest := []) ⟨hx, hb, hml, hown, hts⟩ (s_X4_emit l D t σ I_93 J ri rj rq H.size tg hSH hG.1 this (I_93 194 this_scanner) hL_this hK_this) (cwV 1 hts (tw_V tw_769 tw_770 tw_771 tw_25 tw_772) rfl rfl rfl cv_yX4_emit_1 ⟨Nat.le_of_ble_eq_true rfl, Nat.le_of_ble_eq_true rfl⟩) ⟨pq_blind, pq_recv hK hP hL_this hK_this (by decide +kernel) rfl, pq_pre hK hN hP hD⟩ rfl rfl hl.1 rfl (lv_room (Nat.le_of_ble_eq_true rfl)) dX4_readKey_108 ⟨Nat.le_of_ble_eq_true rfl, Nat.le_of_ble_eq_true rfl⟩) hD hS hA (fun σ1 μ1 H locs hw_108 hP hD hS => ?_)
        obtain ⟨I_109, ri_110, hu_111, hg_112, hp_114, hp_115, hfn_116, hfr_117⟩ := hw_108
        obtain ⟨hu_111a, hu_111b⟩ := Prod.mk.inj hu_111
        rw [hu_111a, hu_111b] at hP hD
        replace hF := hF.trans (bv_n hfn_116)
        replace hFr := fr_tr hFr hfr_117
        have tt_118 := hp_114
        have tt_119 := hp_115
        have hG := GX.tr hG hg_112 (by decide +kernel)
        have tt_120 : (I_109 134 this).toInt = (I_93 134 this).toInt := by rw [hg_112.2.1 134 (by decide +kernel) (by decide +kernel)]
        have tt_121 : (I_109 129 this).toInt = (I_93 129 this).toInt := by rw [hg_112.2.1 129 (by decide +kernel) (by decide +kernel)]
        have tt_122 : (I_109 197 this_scanner).toInt = (I_93 197 this_scanner).toInt := by rw [hg_112.2.1 197 (by decide +kernel) (by decide +kernel)]
        have tt_123 : (I_109 194 this_scanner).toInt = (I_93 194 this_scanner).toInt := by rw [hg_112.2.1 194 (by decide +kernel) (by decide +kernel)]
        subst hQ
        exact W.vret hx hb hr (fun t1 ht hW => ⟨⟨(σ, I_109, J, ri_110, rj, rq), rfl, ⟨I_109, ri_110, rfl, hG, (by omega), (ft_t (fun _ _ => rfl) hp_115), (hF0.symm.trans hF), hFr⟩, by rw [ht]; exact hP, va_K.moved hW.alike hK, hD⟩, hS.F ht⟩) hS.2.2 dX4_readKey_111
    · replace hF := hF.trans (if_pos c_2)
      have tc_124 : (I 194 this_scanner).toInt = 26 := congrArg Int32.toInt c_2
      have h_125 : rg (I 194 this_scanner) 26 26 := rg_and (rg_full _) (rg_of_eq c_2 (rg_k (26 : Int32) 26 rfl)) (by decide +kernel)
      have uh_125 := h_125.1
      have vh_125 := h_125.2
      refine lv_iconst (v := 1) hx hb dX4_readKey_12 (by decide +kernel) ?_
      refine lv_goto (tgt := 17) hx hb dX4_readKey_13 (by decide +kernel) ?_
      refine lv_istore_n (lv' := [(2, .int 1), (0, .ref this), (1, .int a0)]) hx hb dX4_readKey_17 rfl hl (by decide +kernel) rfl (fun ls hl => ?_)
      refine lv_iload_n hx hb dX4_readKey_18 rfl (lv_at hl 0 rfl) ?_
      refine lv_if_ne (tgt := 43) hx hb dX4_readKey_19 (by decide +kernel) (fun c_126 => ?_) (fun c_126 => absurd c_126 (by decide +kernel))
      refine lv_iload_n hx hb dX4_readKey_43 rfl (lv_at hl 2 rfl) ?_
      refine lv_iconst (v := 4) hx hb dX4_readKey_44 (by decide +kernel) ?_
      refine lv_icmp_lt (tgt := 56) hx hb dX4_readKey_45 (by decide +kernel) (fun c_127 => ?_) (fun c_127 => ?_)
      · replace hF := hF.trans (if_pos c_127)
        have tc_132 : (a0).toInt < 4 := Int32.lt_iff_toInt_lt.mp c_127
        have h_133 : rg a0 (-2147483648) 3 := rg_lt1 c_127 (rg_full _) (rg_k (4 : Int32) 4 rfl) (by decide +kernel)
        have uh_133 := h_133.1
        have vh_133 := h_133.2
        refine lv_iload_n hx hb dX4_readKey_56 rfl (lv_at hl 0 rfl) ?_
        refine lv_if_eq (tgt := 85) hx hb dX4_readKey_57 (by decide +kernel) (fun c_134 => absurd c_134 (by decide +kernel)) (fun c_134 => ?_)
        refine lv_aload_n hx hb dX4_readKey_60 rfl (lv_at hl 1 rfl) ?_
        refine pg_f (v := .ref this_scanner) (C := RX4) (T := TX4) (N := 12) hx hb hts (tw_i inlX4) hown hK hP hL_this hK_this (by decide +kernel) rfl 0 (by decide +kernel) (hts _ (tw_c tw_154)) (pq_hv rfl hR_this_scanner) dX4_readKey_61 ?_
        refine pk_v (va_runV (As := []) (rest := []) ⟨hx, hb, hml, hown, hts⟩ (s_X6_advance l D t σ I J ri rj rq H.size aK aV vF tg hSH hG.1 this_scanner hL_this_scanner hK_this_scanner this hL_this hK_this hO_this_scanner) (cwV 0 hts (tw_V tw_663 tw_664 tw_665 tw_153 tw_666) rfl rfl rfl cv_yX6_advance_0 ⟨Nat.le_of_ble_eq_true rfl, Nat.le_of_ble_eq_true rfl⟩) ⟨pq_blindS, pq_recv hK hP hL_this_scanner hK_this_scanner (by decide +kernel) rfl, pq_preS hK hN hP hD hS hA hW0⟩ rfl rfl hl.1 rfl (lv_room (Nat.le_of_ble_eq_true rfl)) dX4_readKey_64 ⟨Nat.le_of_ble_eq_true rfl, Nat.le_of_ble_eq_true rfl⟩) hD hS hA (fun σ1 μ1 H locs hw_136 hP hD hS => ?_)
        obtain ⟨I_137, hu_138, hg_139, hp_141, hp_142, hfn_143, hfr_144⟩ := hw_136
        obtain ⟨hu_138a, hu_138b⟩ := Prod.mk.inj hu_138
        rw [hu_138a, hu_138b] at hP hD
        replace hF := hF.trans (bv_n hfn_143)
        replace hFr := fr_tr hFr hfr_144
        have tt_145 := hp_141
        have tt_146 := hp_142
        have hG := GX.tr hG hg_139 (by decide +kernel)
        have tt_147 : (I_137 132 this).toInt = (I 132 this).toInt := by rw [hg_139.2.1 132 (by decide +kernel) (by decide +kernel)]
        have tt_148 : (I_137 134 this).toInt = (I 134 this).toInt := by rw [hg_139.2.1 134 (by decide +kernel) (by decide +kernel)]
        have tt_149 : (I_137 129 this).toInt = (I 129 this).toInt := by rw [hg_139.2.1 129 (by decide +kernel) (by decide +kernel)]
        refine lv_aload_n hx hb dX4_readKey_67 rfl (lv_at hl 1 rfl) ?_
        refine pg_f (v := .ref this_scanner) (C := RX4) (T := TX4) (N := 12) hx hb hts (tw_i inlX4) hown hK hP hL_this hK_this (by decide +kernel) rfl 0 (by decide +kernel) (hts _ (tw_c tw_154)) (pq_hv rfl hR_this_scanner) dX4_readKey_68 ?_
        refine pg_f (v := .int (I_137 194 this_scanner)) (C := RX6) (T := TX6) (N := 6) hx hb hts (tw_i inlX6) hown hK hP hL_this_scanner hK_this_scanner (by decide +kernel) rfl 2 (by decide +kernel) (hts _ (tw_c tw_657)) rfl dX4_readKey_71 ?_
        replace hF := hF.trans (ap_n (vI_e (f := 194) hO_this_scanner (by decide +kernel)))
        refine pk_i (va_runS (As := [.int (I_137 194 this_scanner)]) (rest := []) ⟨hx, hb, hml, hown, hts⟩ (s_X4_isName l D t σ I_137 J ri rj rq H.size tg hSH hG.1 (I_137 194 this_scanner)) (va_cwS 1 hts (tw_S tw_774 tw_775 tw_25 tw_776) rfl rfl rfl cd_yX4_isName_1 ⟨Nat.le_of_ble_eq_true rfl, Nat.le_of_ble_eq_true rfl⟩) ⟨pq_blind, pq_pre hK hN hP hD⟩ rfl rfl hl.1 rfl (lv_room (Nat.le_of_ble_eq_true rfl)) dX4_readKey_74 ⟨Nat.le_of_ble_eq_true rfl, Nat.le_of_ble_eq_true rfl⟩) hD hS hA (fun x_151 σ1 μ1 H locs hw_152 hP hD hS => ?_)
        obtain ⟨hu_153, hfn_156, hr_155⟩ := hw_152
        obtain ⟨hu_153a, hu_153b⟩ := Prod.mk.inj hu_153
        rw [hu_153a, hu_153b] at hP hD
        replace hF := hF.trans (ap_n hfn_156.symm)
        have h_158 : rg x_151 0 1 := by rcases hr_155 with ⟨q, -⟩ | ⟨q, -⟩ <;> rw [q] <;> exact ⟨by decide +kernel, by decide +kernel⟩
        have uh_158 := h_158.1
        have vh_158 := h_158.2
        refine lv_if_ne (tgt := 85) hx hb dX4_readKey_77 (by decide +kernel) (fun c_159 => ?_) (fun c_159 => ?_)
        · replace hF := hF.trans (if_neg c_159)
          have f_166 := (hr_155.resolve_right (fun q => c_159 q.1)).2
          have uf_166 := f_166.1
          have vf_166 := f_166.2
          have tc_167 : (x_151).toInt ≠ 0 := fun q => c_159 (Int32.toInt_inj.mp q)
          have h_168 : rg x_151 1 1 := rg_ne c_159 h_158 0 rfl (by decide +kernel)
          have uh_168 := h_168.1
          have vh_168 := h_168.2
          refine lv_aload_n hx hb dX4_readKey_85 rfl (lv_at hl 1 rfl) ?_
          refine lv_iload_n hx hb dX4_readKey_86 rfl (lv_at hl 0 rfl) ?_
          refine lv_if_eq (tgt := 101) hx hb dX4_readKey_87 (by decide +kernel) (fun c_169 => absurd c_169 (by decide +kernel)) (fun c_169 => ?_)
          refine lv_aload_n hx hb dX4_readKey_90 rfl (lv_at hl 1 rfl) ?_
          refine pg_f (v := .ref this_scanner) (C := RX4) (T := TX4) (N := 12) hx hb hts (tw_i inlX4) hown hK hP hL_this hK_this (by decide +kernel) rfl 0 (by decide +kernel) (hts _ (tw_c tw_154)) (pq_hv rfl hR_this_scanner) dX4_readKey_91 ?_
          refine pg_f (v := .int (I_137 194 this_scanner)) (C := RX6) (T := TX6) (N := 6) hx hb hts (tw_i inlX6) hown hK hP hL_this_scanner hK_this_scanner (by decide +kernel) rfl 2 (by decide +kernel) (hts _ (tw_c tw_657)) rfl dX4_readKey_94 ?_
          refine lv_ineg hx hb dX4_readKey_97 ?_
          refine lv_topi (fun x_170 ex_170 => ?_)
          replace hF := hF.trans (ap_n ex_170)
          have h_171 : rg x_170 (-17) (-12) := rg_of_eq ex_170 (rg_neg f_166 (by decide +kernel))
          have uh_171 := h_171.1
          have vh_171 := h_171.2
          refine lv_goto (tgt := 108) hx hb dX4_readKey_98 (by decide +kernel) ?_
          refine pk_v (va_runV (As := [.int x_170]) (rest := []) ⟨hx, hb, hml, hown, hts⟩ (s_X4_emit l D t σ I_137 J ri rj rq H.size tg hSH hG.1 this x_170 hL_this hK_this) (cwV 1 hts (tw_V tw_769 tw_770 tw_771 tw_25 tw_772) rfl rfl rfl cv_yX4_emit_1 ⟨Nat.le_of_ble_eq_true rfl, Nat.le_of_ble_eq_true rfl⟩) ⟨pq_blind, pq_recv hK hP hL_this hK_this (by decide +kernel) rfl, pq_pre hK hN hP hD⟩ rfl rfl hl.1 rfl (lv_room (Nat.le_of_ble_eq_true rfl)) dX4_readKey_108 ⟨Nat.le_of_ble_eq_true rfl, Nat.le_of_ble_eq_true rfl⟩) hD hS hA (fun σ1 μ1 H locs hw_173 hP hD hS => ?_)
          obtain ⟨I_174, ri_175, hu_176, hg_177, hp_179, hp_180, hfn_181, hfr_182⟩ := hw_173
          obtain ⟨hu_176a, hu_176b⟩ := Prod.mk.inj hu_176
          rw [hu_176a, hu_176b] at hP hD
          replace hF := hF.trans (bv_n hfn_181)
          replace hFr := fr_tr hFr hfr_182
          have tt_183 := hp_179
          have tt_184 := hp_180
          have hG := GX.tr hG hg_177 (by decide +kernel)
          have tt_185 : (I_174 134 this).toInt = (I_137 134 this).toInt := by rw [hg_177.2.1 134 (by decide +kernel) (by decide +kernel)]
          have tt_186 : (I_174 129 this).toInt = (I_137 129 this).toInt := by rw [hg_177.2.1 129 (by decide +kernel) (by decide +kernel)]
          have tt_187 : (I_174 197 this_scanner).toInt = (I_137 197 this_scanner).toInt := by rw [hg_177.2.1 197 (by decide +kernel) (by decide +kernel)]
          have tt_188 : (I_174 194 this_scanner).toInt = (I_137 194 this_scanner).toInt := by rw [hg_177.2.1 194 (by decide +kernel) (by decide +kernel)]
          subst hQ
          exact W.vret hx hb hr (fun t1 ht hW => ⟨⟨(σ, I_174, J, ri_175, rj, rq), rfl, ⟨I_174, ri_175, rfl, hG, (by omega), (ft_t (fun _ _ => rfl) hp_180), (hF0.symm.trans hF), hFr⟩, by rw [ht]; exact hP, va_K.moved hW.alike hK, hD⟩, hS.F ht⟩) hS.2.2 dX4_readKey_111
        · replace hF := hF.trans (if_pos c_159)
          have f_189 := (hr_155.resolve_left (fun q => absurd (q.1.symm.trans c_159) (by decide +kernel))).2
          have tc_190 : (x_151).toInt = 0 := congrArg Int32.toInt c_159
          have h_191 : rg x_151 0 0 := rg_and h_158 (rg_of_eq c_159 (rg_k (0 : Int32) 0 rfl)) (by decide +kernel)
          have uh_191 := h_191.1
          have vh_191 := h_191.2
          refine lv_aload_n hx hb dX4_readKey_80 rfl (lv_at hl 1 rfl) ?_
          refine lv_iconst (v := 1) hx hb dX4_readKey_81 (by decide +kernel) ?_
          refine pk_v (va_runV (As := [.int 1]) (rest := []) ⟨hx, hb, hml, hown, hts⟩ (s_X4_refuse l D t σ I_137 J ri rj rq H.size tg hSH hG.1 this (1 : Int32) hL_this hK_this (rg_w (rg_k (1 : Int32) 1 rfl) (by decide +kernel))) (cwV 1 hts (tw_V tw_748 tw_749 tw_750 tw_25 tw_751) rfl rfl rfl cv_yX4_refuse_1 ⟨Nat.le_of_ble_eq_true rfl, Nat.le_of_ble_eq_true rfl⟩) ⟨pq_blind, pq_recv hK hP hL_this hK_this (by decide +kernel) rfl, pq_pre hK hN hP hD⟩ rfl rfl hl.1 rfl (lv_room (Nat.le_of_ble_eq_true rfl)) dX4_readKey_82 ⟨Nat.le_of_ble_eq_true rfl, Nat.le_of_ble_eq_true rfl⟩) hD hS hA (fun σ1 μ1 H locs hw_193 hP hD hS => ?_)
          obtain ⟨I_194, hu_195, hg_196, hp_198, hfn_199, hfr_200⟩ := hw_193
          obtain ⟨hu_195a, hu_195b⟩ := Prod.mk.inj hu_195
          rw [hu_195a, hu_195b] at hP hD
          replace hF := hF.trans (bv_n hfn_199)
          replace hFr := fr_tr hFr hfr_200
          have tt_201 := hp_198
          have hG := GX.tr hG hg_196 (by decide +kernel)
          have tt_202 : (I_194 132 this).toInt = (I_137 132 this).toInt := by rw [hg_196.2.1 132 (by decide +kernel) (by decide +kernel)]
          have tt_203 : (I_194 134 this).toInt = (I_137 134 this).toInt := by rw [hg_196.2.1 134 (by decide +kernel) (by decide +kernel)]
          have tt_204 : (I_194 197 this_scanner).toInt = (I_137 197 this_scanner).toInt := by rw [hg_196.2.1 197 (by decide +kernel) (by decide +kernel)]
          have tt_205 : (I_194 194 this_scanner).toInt = (I_137 194 this_scanner).toInt := by rw [hg_196.2.1 194 (by decide +kernel) (by decide +kernel)]
          refine lv_aload_n hx hb dX4_readKey_85 rfl (lv_at hl 1 rfl) ?_
          refine lv_iload_n hx hb dX4_readKey_86 rfl (lv_at hl 0 rfl) ?_
          refine lv_if_eq (tgt := 101) hx hb dX4_readKey_87 (by decide +kernel) (fun c_206 => absurd c_206 (by decide +kernel)) (fun c_206 => ?_)
          refine lv_aload_n hx hb dX4_readKey_90 rfl (lv_at hl 1 rfl) ?_
          refine pg_f (v := .ref this_scanner) (C := RX4) (T := TX4) (N := 12) hx hb hts (tw_i inlX4) hown hK hP hL_this hK_this (by decide +kernel) rfl 0 (by decide +kernel) (hts _ (tw_c tw_154)) (pq_hv rfl hR_this_scanner) dX4_readKey_91 ?_
          refine pg_f (v := .int (I_194 194 this_scanner)) (C := RX6) (T := TX6) (N := 6) hx hb hts (tw_i inlX6) hown hK hP hL_this_scanner hK_this_scanner (by decide +kernel) rfl 2 (by decide +kernel) (hts _ (tw_c tw_657)) rfl dX4_readKey_94 ?_
          replace hF := hF.trans (ap_n (vI_e (f := 194) hO_this_scanner (by decide +kernel)))
          refine lv_ineg hx hb dX4_readKey_97 ?_
          refine lv_topi (fun x_208 ex_208 => ?_)
          replace hF := hF.trans (ap_n ex_208)
          refine lv_goto (tgt := 108) hx hb dX4_readKey_98 (by decide +kernel) ?_
          refine pk_v (va_runV (As := [.int x_208]) (rest := []) ⟨hx, hb, hml, hown, hts⟩ (s_X4_emit l D t σ I_194 J ri rj rq H.size tg hSH hG.1 this x_208 hL_this hK_this) (cwV 1 hts (tw_V tw_769 tw_770 tw_771 tw_25 tw_772) rfl rfl rfl cv_yX4_emit_1 ⟨Nat.le_of_ble_eq_true rfl, Nat.le_of_ble_eq_true rfl⟩) ⟨pq_blind, pq_recv hK hP hL_this hK_this (by decide +kernel) rfl, pq_pre hK hN hP hD⟩ rfl rfl hl.1 rfl (lv_room (Nat.le_of_ble_eq_true rfl)) dX4_readKey_108 ⟨Nat.le_of_ble_eq_true rfl, Nat.le_of_ble_eq_true rfl⟩) hD hS hA (fun σ1 μ1 H locs hw_210 hP hD hS => ?_)
          obtain ⟨I_211, ri_212, hu_213, hg_214, hp_216, hp_217, hfn_218, hfr_219⟩ := hw_210
          obtain ⟨hu_213a, hu_213b⟩ := Prod.mk.inj hu_213
          rw [hu_213a, hu_213b] at hP hD
          replace hF := hF.trans (bv_n hfn_218)
          replace hFr := fr_tr hFr hfr_219
          have tt_220 := hp_216
          have tt_221 := hp_217
          have hG := GX.tr hG hg_214 (by decide +kernel)
          have tt_222 : (I_211 134 this).toInt = (I_194 134 this).toInt := by rw [hg_214.2.1 134 (by decide +kernel) (by decide +kernel)]
          have tt_223 : (I_211 129 this).toInt = (I_194 129 this).toInt := by rw [hg_214.2.1 129 (by decide +kernel) (by decide +kernel)]
          have tt_224 : (I_211 197 this_scanner).toInt = (I_194 197 this_scanner).toInt := by rw [hg_214.2.1 197 (by decide +kernel) (by decide +kernel)]
          have tt_225 : (I_211 194 this_scanner).toInt = (I_194 194 this_scanner).toInt := by rw [hg_214.2.1 194 (by decide +kernel) (by decide +kernel)]
          subst hQ
          exact W.vret hx hb hr (fun t1 ht hW => ⟨⟨(σ, I_211, J, ri_212, rj, rq), rfl, ⟨I_211, ri_212, rfl, hG, (by omega), (ft_t (fun _ _ => rfl) hp_217), (hF0.symm.trans hF), hFr⟩, by rw [ht]; exact hP, va_K.moved hW.alike hK, hD⟩, hS.F ht⟩) hS.2.2 dX4_readKey_111
      · replace hF := hF.trans (if_neg c_127)
        have tc_226 : 4 ≤ (a0).toInt := Int32.le_iff_toInt_le.mp (nlt c_127)
        have h_227 : rg a0 4 2147483647 := rg_le2 (nlt c_127) (rg_k (4 : Int32) 4 rfl) (rg_full _) (by decide +kernel)
        have uh_227 := h_227.1
        have vh_227 := h_227.2
        refine lv_aload_n hx hb dX4_readKey_48 rfl (lv_at hl 1 rfl) ?_
        refine lv_iconst (v := 5) hx hb dX4_readKey_49 (by decide +kernel) ?_
        refine pk_v (va_runV (As := [.int 5]) (rest := []) ⟨hx, hb, hml, hown, hts⟩ (s_X4_refuse l D t σ I J ri rj rq H.size tg hSH hG.1 this (5 : Int32) hL_this hK_this (rg_w (rg_k (5 : Int32) 5 rfl) (by decide +kernel))) (cwV 1 hts (tw_V tw_748 tw_749 tw_750 tw_25 tw_751) rfl rfl rfl cv_yX4_refuse_1 ⟨Nat.le_of_ble_eq_true rfl, Nat.le_of_ble_eq_true rfl⟩) ⟨pq_blind, pq_recv hK hP hL_this hK_this (by decide +kernel) rfl, pq_pre hK hN hP hD⟩ rfl rfl hl.1 rfl (lv_room (Nat.le_of_ble_eq_true rfl)) dX4_readKey_50 ⟨Nat.le_of_ble_eq_true rfl, Nat.le_of_ble_eq_true rfl⟩) hD hS hA (fun σ1 μ1 H locs hw_229 hP hD hS => ?_)
        obtain ⟨I_230, hu_231, hg_232, hp_234, hfn_235, hfr_236⟩ := hw_229
        obtain ⟨hu_231a, hu_231b⟩ := Prod.mk.inj hu_231
        rw [hu_231a, hu_231b] at hP hD
        replace hF := hF.trans (bv_n hfn_235)
        replace hFr := fr_tr hFr hfr_236
        have tt_237 := hp_234
        have hG := GX.tr hG hg_232 (by decide +kernel)
        have tt_238 : (I_230 132 this).toInt = (I 132 this).toInt := by rw [hg_232.2.1 132 (by decide +kernel) (by decide +kernel)]
        have tt_239 : (I_230 134 this).toInt = (I 134 this).toInt := by rw [hg_232.2.1 134 (by decide +kernel) (by decide +kernel)]
        have tt_240 : (I_230 197 this_scanner).toInt = (I 197 this_scanner).toInt := by rw [hg_232.2.1 197 (by decide +kernel) (by decide +kernel)]
        have tt_241 : (I_230 194 this_scanner).toInt = (I 194 this_scanner).toInt := by rw [hg_232.2.1 194 (by decide +kernel) (by decide +kernel)]
        refine lv_goto (tgt := 85) hx hb dX4_readKey_53 (by decide +kernel) ?_
        refine lv_aload_n hx hb dX4_readKey_85 rfl (lv_at hl 1 rfl) ?_
        refine lv_iload_n hx hb dX4_readKey_86 rfl (lv_at hl 0 rfl) ?_
        refine lv_if_eq (tgt := 101) hx hb dX4_readKey_87 (by decide +kernel) (fun c_242 => absurd c_242 (by decide +kernel)) (fun c_242 => ?_)
        refine lv_aload_n hx hb dX4_readKey_90 rfl (lv_at hl 1 rfl) ?_
        refine pg_f (v := .ref this_scanner) (C := RX4) (T := TX4) (N := 12) hx hb hts (tw_i inlX4) hown hK hP hL_this hK_this (by decide +kernel) rfl 0 (by decide +kernel) (hts _ (tw_c tw_154)) (pq_hv rfl hR_this_scanner) dX4_readKey_91 ?_
        refine pg_f (v := .int (I_230 194 this_scanner)) (C := RX6) (T := TX6) (N := 6) hx hb hts (tw_i inlX6) hown hK hP hL_this_scanner hK_this_scanner (by decide +kernel) rfl 2 (by decide +kernel) (hts _ (tw_c tw_657)) rfl dX4_readKey_94 ?_
        have h_243 : rg (I_230 194 this_scanner) 26 26 := (by rw [hg_232.2.1 194 (by decide +kernel) (by decide +kernel)]; exact h_125)
        have uh_243 := h_243.1
        have vh_243 := h_243.2
        replace hF := hF.trans (ap_n (vI_e (f := 194) hO_this_scanner (by decide +kernel)))
        refine lv_ineg hx hb dX4_readKey_97 ?_
        refine lv_topi (fun x_245 ex_245 => ?_)
        replace hF := hF.trans (ap_n ex_245)
        have h_246 : rg x_245 (-26) (-26) := rg_of_eq ex_245 (rg_neg h_243 (by decide +kernel))
        have uh_246 := h_246.1
        have vh_246 := h_246.2
        refine lv_goto (tgt := 108) hx hb dX4_readKey_98 (by decide +kernel) ?_
        refine pk_v (va_runV (As := [.int x_245]) (rest := []) ⟨hx, hb, hml, hown, hts⟩ (s_X4_emit l D t σ I_230 J ri rj rq H.size tg hSH hG.1 this x_245 hL_this hK_this) (cwV 1 hts (tw_V tw_769 tw_770 tw_771 tw_25 tw_772) rfl rfl rfl cv_yX4_emit_1 ⟨Nat.le_of_ble_eq_true rfl, Nat.le_of_ble_eq_true rfl⟩) ⟨pq_blind, pq_recv hK hP hL_this hK_this (by decide +kernel) rfl, pq_pre hK hN hP hD⟩ rfl rfl hl.1 rfl (lv_room (Nat.le_of_ble_eq_true rfl)) dX4_readKey_108 ⟨Nat.le_of_ble_eq_true rfl, Nat.le_of_ble_eq_true rfl⟩) hD hS hA (fun σ1 μ1 H locs hw_248 hP hD hS => ?_)
        obtain ⟨I_249, ri_250, hu_251, hg_252, hp_254, hp_255, hfn_256, hfr_257⟩ := hw_248
        obtain ⟨hu_251a, hu_251b⟩ := Prod.mk.inj hu_251
        rw [hu_251a, hu_251b] at hP hD
        replace hF := hF.trans (bv_n hfn_256)
        replace hFr := fr_tr hFr hfr_257
        have tt_258 := hp_254
        have tt_259 := hp_255
        have hG := GX.tr hG hg_252 (by decide +kernel)
        have tt_260 : (I_249 134 this).toInt = (I_230 134 this).toInt := by rw [hg_252.2.1 134 (by decide +kernel) (by decide +kernel)]
        have tt_261 : (I_249 129 this).toInt = (I_230 129 this).toInt := by rw [hg_252.2.1 129 (by decide +kernel) (by decide +kernel)]
        have tt_262 : (I_249 197 this_scanner).toInt = (I_230 197 this_scanner).toInt := by rw [hg_252.2.1 197 (by decide +kernel) (by decide +kernel)]
        have tt_263 : (I_249 194 this_scanner).toInt = (I_230 194 this_scanner).toInt := by rw [hg_252.2.1 194 (by decide +kernel) (by decide +kernel)]
        subst hQ
        exact W.vret hx hb hr (fun t1 ht hW => ⟨⟨(σ, I_249, J, ri_250, rj, rq), rfl, ⟨I_249, ri_250, rfl, hG, (by omega), (ft_t (fun _ _ => rfl) hp_255), (hF0.symm.trans hF), hFr⟩, by rw [ht]; exact hP, va_K.moved hW.alike hK, hD⟩, hS.F ht⟩) hS.2.2 dX4_readKey_111
  exact go _ _ _ hP hD hS hl

set_option maxRecDepth 100000 in
def g_X4_readKeys_L4 (J : Nat → Int64) (rj : Nat → Nat → Int64) (rq : Nat → Nat → Option Nat) : Nat → (Int32) → (Int32) → (Nat → Int32) → (Nat → Nat → Int32) → vM
  | 0, x_650, x_651, I_652, ri_653 => (I_652, J, ri_653, rj, rq)
  | n_777 + 1, x_650, x_651, I_652, ri_653 => (if x_651 = (0 : Int32) then (bnV (g_X4_expectSemicolon I_652 J ri_653 rj rq) fun (I_797 : Nat → Int32) (_ : Nat → Int64) (_ : Nat → Nat → Int32) (_ : Nat → Nat → Int64) (_ : Nat → Nat → Option Nat) => (I_797, J, ri_653, rj, rq)) else (if (4 : Int32) < x_650 then (bnV (g_X4_expectSemicolon I_652 J ri_653 rj rq) fun (I_820 : Nat → Int32) (_ : Nat → Int64) (_ : Nat → Nat → Int32) (_ : Nat → Nat → Int64) (_ : Nat → Nat → Option Nat) => (I_820, J, ri_653, rj, rq)) else (ap1 (I_652 129) fun (y_834 : Int32) => (if (y_834) = (0 : Int32) then (bnV (g_X6_advance I_652 J ri_653 rj rq) fun (I_858 : Nat → Int32) (_ : Nat → Int64) (_ : Nat → Nat → Int32) (_ : Nat → Nat → Int64) (_ : Nat → Nat → Option Nat) => (bnV (g_X4_readKey x_650 I_858 J ri_653 rj rq) fun (I_873 : Nat → Int32) (_ : Nat → Int64) (ri_874 : Nat → Nat → Int32) (_ : Nat → Nat → Int64) (_ : Nat → Nat → Option Nat) => (ap1 (x_650 + Int32.ofInt 1) fun (x_885 : Int32) => (ap1 (I_873 129) fun (y_887 : Int32) => (if (y_887) = (0 : Int32) then (bnV (g_X6_advance I_873 J ri_874 rj rq) fun (I_905 : Nat → Int32) (_ : Nat → Int64) (_ : Nat → Nat → Int32) (_ : Nat → Nat → Int64) (_ : Nat → Nat → Option Nat) => (ap1 (I_905 194) fun (y_918 : Int32) => (if (y_918) = (31 : Int32) then ((g_X4_readKeys_L4 J rj rq n_777) x_885 (1 : Int32) I_905 ri_874) else ((g_X4_readKeys_L4 J rj rq n_777) x_885 (0 : Int32) I_905 ri_874)))) else (ap1 (I_873 194) fun (y_893 : Int32) => (if (y_893) = (31 : Int32) then ((g_X4_readKeys_L4 J rj rq n_777) x_885 (1 : Int32) I_873 ri_874) else ((g_X4_readKeys_L4 J rj rq n_777) x_885 (0 : Int32) I_873 ri_874)))))))) else (bnV (g_X4_expectSemicolon I_652 J ri_653 rj rq) fun (I_842 : Nat → Int32) (_ : Nat → Int64) (_ : Nat → Nat → Int32) (_ : Nat → Nat → Int64) (_ : Nat → Nat → Option Nat) => (I_842, J, ri_653, rj, rq))))))
set_option maxRecDepth 100000 in
theorem g_X4_readKeys_L4_e {J : Nat → Int64} {rj : Nat → Nat → Int64} {rq : Nat → Nat → Option Nat} {n_777 : Nat} {x_650 : Int32} {x_651 : Int32} {I_652 : Nat → Int32} {ri_653 : Nat → Nat → Int32} : g_X4_readKeys_L4 J rj rq (n_777 + 1) x_650 x_651 I_652 ri_653 = (if x_651 = (0 : Int32) then (bnV (g_X4_expectSemicolon I_652 J ri_653 rj rq) fun (I_797 : Nat → Int32) (_ : Nat → Int64) (_ : Nat → Nat → Int32) (_ : Nat → Nat → Int64) (_ : Nat → Nat → Option Nat) => (I_797, J, ri_653, rj, rq)) else (if (4 : Int32) < x_650 then (bnV (g_X4_expectSemicolon I_652 J ri_653 rj rq) fun (I_820 : Nat → Int32) (_ : Nat → Int64) (_ : Nat → Nat → Int32) (_ : Nat → Nat → Int64) (_ : Nat → Nat → Option Nat) => (I_820, J, ri_653, rj, rq)) else (ap1 (I_652 129) fun (y_834 : Int32) => (if (y_834) = (0 : Int32) then (bnV (g_X6_advance I_652 J ri_653 rj rq) fun (I_858 : Nat → Int32) (_ : Nat → Int64) (_ : Nat → Nat → Int32) (_ : Nat → Nat → Int64) (_ : Nat → Nat → Option Nat) => (bnV (g_X4_readKey x_650 I_858 J ri_653 rj rq) fun (I_873 : Nat → Int32) (_ : Nat → Int64) (ri_874 : Nat → Nat → Int32) (_ : Nat → Nat → Int64) (_ : Nat → Nat → Option Nat) => (ap1 (x_650 + Int32.ofInt 1) fun (x_885 : Int32) => (ap1 (I_873 129) fun (y_887 : Int32) => (if (y_887) = (0 : Int32) then (bnV (g_X6_advance I_873 J ri_874 rj rq) fun (I_905 : Nat → Int32) (_ : Nat → Int64) (_ : Nat → Nat → Int32) (_ : Nat → Nat → Int64) (_ : Nat → Nat → Option Nat) => (ap1 (I_905 194) fun (y_918 : Int32) => (if (y_918) = (31 : Int32) then ((g_X4_readKeys_L4 J rj rq n_777) x_885 (1 : Int32) I_905 ri_874) else ((g_X4_readKeys_L4 J rj rq n_777) x_885 (0 : Int32) I_905 ri_874)))) else (ap1 (I_873 194) fun (y_893 : Int32) => (if (y_893) = (31 : Int32) then ((g_X4_readKeys_L4 J rj rq n_777) x_885 (1 : Int32) I_873 ri_874) else ((g_X4_readKeys_L4 J rj rq n_777) x_885 (0 : Int32) I_873 ri_874)))))))) else (bnV (g_X4_expectSemicolon I_652 J ri_653 rj rq) fun (I_842 : Nat → Int32) (_ : Nat → Int64) (_ : Nat → Nat → Int32) (_ : Nat → Nat → Int64) (_ : Nat → Nat → Option Nat) => (I_842, J, ri_653, rj, rq)))))) := rfl
set_option maxRecDepth 100000 in
def g_X4_readKeys (I : Nat → Int32) (J : Nat → Int64) (ri : Nat → Nat → Int32) (rj : Nat → Nat → Int64) (rq : Nat → Nat → Option Nat) : vM := (g_X4_readKeys_L4 J rj rq ((5 - ((0 : Int32)).toInt).toNat + 1) (0 : Int32) (1 : Int32) I ri)
set_option maxRecDepth 100000 in
theorem g_X4_readKeys_e {I : Nat → Int32} {J : Nat → Int64} {ri : Nat → Nat → Int32} {rj : Nat → Nat → Int64} {rq : Nat → Nat → Option Nat} : g_X4_readKeys I J ri rj rq = (g_X4_readKeys_L4 J rj rq ((5 - ((0 : Int32)).toInt).toNat + 1) (0 : Int32) (1 : Int32) I ri) := rfl
set_option maxHeartbeats 4000000 in
set_option maxRecDepth 100000 in
theorem s_X4_readKeys (l : Launch) (D : va_G) (t : pq_T) (σ : pq_S) (I : Nat → Nat → Int32) (J : Nat → Nat → Int64) (ri : Nat → Nat → Int32) (rj : Nat → Nat → Int64) (rq : Nat → Nat → Option Nat) (sz : Nat) (aK aV : Nat) (vF : Value) (tg : Nat → Nat) (hSH : SH σ tg) (hG0 : GS tg σ I ri rq) (this : Nat) (hL_this : this ∈ σ.1) (hK_this : σ.2.1 this = 4) (this_scanner : Nat) (hR_this_scanner : σ.2.2.1 128 this = some this_scanner) (hL_this_scanner : this_scanner ∈ σ.1) (hK_this_scanner : σ.2.1 this_scanner = 6) (hca : (I 132 this).toInt ≤ (I 197 this_scanner).toInt) : MetVS aK aV vF l yX4_readKeys (wa yX4_readKeys cX4_readKeys 3 none) ({ frames := 7, cells := 0, slots := 0, locals := 151 }) [.ref this] D t σ (I, J, ri, rj, rq) sz 0 0 (fun (u : pq_S × pq_M) => ∃ I' : Nat → Nat → Int32, ∃ ri' : Nat → Nat → Int32, u = (σ, I', J, ri', rj, rq) ∧ GX [129, 197, 194, 132] tg σ I ri rj I' ri' rj rq ∧ (((I' 129 this).toInt = 0 → (I' 132 this).toInt ≤ (I' 197 this_scanner).toInt)) ∧ (∀ q, tg q = 258 → ri' q = ri q) ∧ g_X4_readKeys (vI 4 σ this I) (vJ 4 σ this J) (vR 4 σ this ri) (vL 4 σ this rj) (vQ 4 σ this rq) = ((vI 4 σ this I'), (vJ 4 σ this J), (vR 4 σ this ri'), (vL 4 σ this rj), (vQ 4 σ this rq)) ∧ FR 4 tg σ this (I, J, ri, rj, rq) (I', J, ri', rj, rq)) := by
  refine Met.ofW (cc := cX4_readKeys) (maxL := 3) (ret := none) (by decide +kernel) rfl ?_
  intro p e s m args below meth c s₁ B hml hv
  obtain ⟨rfl, ⟨hsz, hP, hK, hD0, hN⟩, hW0⟩ := hv
  have hx := B.exec
  have hb := B.bytes
  have hr := B.returns
  have hts := atoms_spec (ws := (wa yX4_readKeys cX4_readKeys 3 none)) B.pre
  have hown : s.vm.findClass RX4 = some m.cls := findClass_of_methodNamed B.named
  have hlocks := B.notSynchronized
  subst hsz
  have hD : va_D (pq_B t σ (I, J, ri, rj, rq) s.heap.size) (pq_P t σ (I, J, ri, rj, rq)) := hD0.self
  generalize hAe : pq_B t σ (I, J, ri, rj, rq) s.heap.size = A at hD hW0 ⊢
  have hA : ∀ q : Nat, s.heap.size ≤ q → A q := fun q h => by rw [← hAe]; exact Or.inr h
  have hS : va_S A s.heap s.heap [] := va_S.rf
  have hG : GX [129, 197, 194, 132] tg σ I ri rj I ri rj rq := ⟨hG0, fun _ _ _ => rfl, fun _ _ _ _ _ => rfl, fun _ _ _ _ _ => rfl⟩
  have hl := lv_entry ([.ref this]) (n := 3) (Nat.le_of_ble_eq_true rfl)
  rw [lg_entry_eq]
  generalize (lg_sl ([.ref this]) ++ List.replicate (3 - (lg_sl ([.ref this])).length) Slot.unset).toArray = ls at hl ⊢
  have hl : lv_has ls 3 [(0, .ref this)] := hl
  refine q_gen (fun Q hQ => ?_)
  have go : ∀ (H : Heap) (locs : List Loc) (ls : Array Slot), va_P D vwCl (pq_P t σ (I, J, ri, rj, rq)) H → va_D A (pq_P t σ (I, J, ri, rj, rq)) → va_S A s.heap H locs → lv_has ls 3 [(0, .ref this)] → W p l e ({ frames := 7, cells := 0, slots := 0, locals := 151 } : Room) s m (List.toArray ([.ref this] : List Value)) below meth c H locs 0 0 Q (F0 m 0 ls []) := by
    intro H locs ls hP hD hS hl
    have hO_this : this = vo σ 4 this := rfl
    have hVT : VT 4 σ tg this := vt_4 hSH hL_this hK_this
    have hFr : FR 4 tg σ this (I, J, ri, rj, rq) (I, J, ri, rj, rq) := fr_rf
    have hO_this_scanner : this_scanner = vo σ 6 this := vo_k (c := 4) hO_this hR_this_scanner
    obtain ⟨F, hF0⟩ : ∃ F, F = g_X4_readKeys (vI 4 σ this I) (vJ 4 σ this J) (vR 4 σ this ri) (vL 4 σ this rj) (vQ 4 σ this rq) := ⟨_, rfl⟩
    have hF := hF0.trans g_X4_readKeys_e
    refine lv_iconst (v := 0) hx hb dX4_readKeys_0 (by decide +kernel) ?_
    refine lv_istore_n (lv' := [(1, .int 0), (0, .ref this)]) hx hb dX4_readKeys_1 rfl hl (by decide +kernel) rfl (fun ls hl => ?_)
    refine lv_iconst (v := 1) hx hb dX4_readKeys_2 (by decide +kernel) ?_
    refine lv_istore_n (lv' := [(2, .int 1), (1, .int 0), (0, .ref this)]) hx hb dX4_readKeys_3 rfl hl (by decide +kernel) rfl (fun ls hl => ?_)
    have L_778 : ∀ (n_777 : Nat) (x_650 : Int32) (x_651 : Int32) (I_652 : Nat → Nat → Int32) (ri_653 : Nat → Nat → Int32) (H : Heap) (locs : List Loc) (ls : Array Slot), rg x_650 0 5 → rg x_651 0 1 → (((I_652 129 this).toInt = 0 → (I_652 132 this).toInt ≤ (I_652 197 this_scanner).toInt)) → (∀ q, tg q = 258 → ri_653 q = ri q) → (5 - (x_650).toInt).toNat < n_777 → F = g_X4_readKeys_L4 (vJ 4 σ this J) (vL 4 σ this rj) (vQ 4 σ this rq) n_777 x_650 x_651 (vI 4 σ this I_652) (vR 4 σ this ri_653) → FR 4 tg σ this (I, J, ri, rj, rq) (I_652, J, ri_653, rj, rq) → GX [129, 197, 194, 132] tg σ I ri rj I_652 ri_653 rj rq → va_P D vwCl (pq_P t σ (I_652, J, ri_653, rj, rq)) H → va_D A (pq_P t σ (I_652, J, ri_653, rj, rq)) → va_S A s.heap H locs → lv_has ls 3 [(0, .ref this), (1, .int x_650), (2, .int x_651)] → W p l e ({ frames := 7, cells := 0, slots := 0, locals := 151 } : Room) s m (List.toArray ([.ref this] : List Value)) below meth c H locs 0 0 Q (F0 m 4 ls []) := by
      intro n_777
      induction n_777 with
      | zero => intro x_650 x_651 I_652 ri_653 H locs ls h_784 h_785 hrel_786 hrel_787 hm_776 hF hFr hG hP hD hS hl; exact absurd hm_776 (Nat.not_lt_zero _)
      | succ n_777 ih_779 =>
        intro x_650 x_651 I_652 ri_653 H locs ls h_784 h_785 hrel_786 hrel_787 hm_776 hF hFr hG hP hD hS hl
        have uh_784 := h_784.1
        have vh_784 := h_784.2
        have uh_785 := h_785.1
        have vh_785 := h_785.2
        replace hF := hF.trans g_X4_readKeys_L4_e
        refine lv_iload_n hx hb dX4_readKeys_4 rfl (lv_at hl 2 rfl) ?_
        refine lv_if_eq (tgt := 70) hx hb dX4_readKeys_5 (by decide +kernel) (fun c_788 => ?_) (fun c_788 => ?_)
        · replace hF := hF.trans (if_pos c_788)
          have tc_793 : (x_651).toInt = 0 := congrArg Int32.toInt c_788
          have h_794 : rg x_651 0 0 := rg_and h_785 (rg_of_eq c_788 (rg_k (0 : Int32) 0 rfl)) (by decide +kernel)
          have uh_794 := h_794.1
          have vh_794 := h_794.2
          refine lv_aload_n hx hb dX4_readKeys_70 rfl (lv_at hl 0 rfl) ?_
          refine pk_v (va_runV (As := []) (rest := []) ⟨hx, hb, hml, hown, hts⟩ (s_X4_expectSemicolon l D t σ I_652 J ri_653 rj rq H.size tg hSH hG.1 this hL_this hK_this) (cwV 0 hts (tw_V tw_805 tw_806 tw_807 tw_25 tw_808) rfl rfl rfl cv_yX4_expectSemicolon_0 ⟨Nat.le_of_ble_eq_true rfl, Nat.le_of_ble_eq_true rfl⟩) ⟨pq_blind, pq_recv hK hP hL_this hK_this (by decide +kernel) rfl, pq_pre hK hN hP hD⟩ rfl rfl hl.1 rfl (lv_room (Nat.le_of_ble_eq_true rfl)) dX4_readKeys_71 ⟨Nat.le_of_ble_eq_true rfl, Nat.le_of_ble_eq_true rfl⟩) hD hS hA (fun σ1 μ1 H locs hw_796 hP hD hS => ?_)
          obtain ⟨I_797, hu_798, hg_799, hp_801, hfn_802, hfr_803⟩ := hw_796
          obtain ⟨hu_798a, hu_798b⟩ := Prod.mk.inj hu_798
          rw [hu_798a, hu_798b] at hP hD
          replace hF := hF.trans (bv_n hfn_802)
          replace hFr := fr_tr hFr hfr_803
          have tt_804 := hp_801
          have hG := GX.tr hG hg_799 (by decide +kernel)
          have tt_805 : (I_797 132 this).toInt = (I_652 132 this).toInt := by rw [hg_799.2.1 132 (by decide +kernel) (by decide +kernel)]
          have tt_806 : (I_797 134 this).toInt = (I_652 134 this).toInt := by rw [hg_799.2.1 134 (by decide +kernel) (by decide +kernel)]
          have tt_807 : (I_797 197 this_scanner).toInt = (I_652 197 this_scanner).toInt := by rw [hg_799.2.1 197 (by decide +kernel) (by decide +kernel)]
          have tt_808 : (I_797 194 this_scanner).toInt = (I_652 194 this_scanner).toInt := by rw [hg_799.2.1 194 (by decide +kernel) (by decide +kernel)]
          subst hQ
          exact W.vret hx hb hr (fun t1 ht hW => ⟨⟨(σ, I_797, J, ri_653, rj, rq), rfl, ⟨I_797, ri_653, rfl, hG, (by omega), hrel_787, (hF0.symm.trans hF), hFr⟩, by rw [ht]; exact hP, va_K.moved hW.alike hK, hD⟩, hS.F ht⟩) hS.2.2 dX4_readKeys_74
        · replace hF := hF.trans (if_neg c_788)
          have tc_809 : (x_651).toInt ≠ 0 := fun q => c_788 (Int32.toInt_inj.mp q)
          have h_810 : rg x_651 1 1 := rg_ne c_788 h_785 0 rfl (by decide +kernel)
          have uh_810 := h_810.1
          have vh_810 := h_810.2
          refine lv_iload_n hx hb dX4_readKeys_8 rfl (lv_at hl 1 rfl) ?_
          refine lv_iconst (v := 4) hx hb dX4_readKeys_9 (by decide +kernel) ?_
          refine lv_icmp_gt (tgt := 70) hx hb dX4_readKeys_10 (by decide +kernel) (fun c_811 => ?_) (fun c_811 => ?_)
          · replace hF := hF.trans (if_pos c_811)
            have tc_816 : 4 < (x_650).toInt := Int32.lt_iff_toInt_lt.mp c_811
            have h_817 : rg x_650 5 5 := rg_lt2 c_811 (rg_k (4 : Int32) 4 rfl) h_784 (by decide +kernel)
            have uh_817 := h_817.1
            have vh_817 := h_817.2
            refine lv_aload_n hx hb dX4_readKeys_70 rfl (lv_at hl 0 rfl) ?_
            refine pk_v (va_runV (As := []) (rest := []) ⟨hx, hb, hml, hown, hts⟩ (s_X4_expectSemicolon l D t σ I_652 J ri_653 rj rq H.size tg hSH hG.1 this hL_this hK_this) (cwV 0 hts (tw_V tw_805 tw_806 tw_807 tw_25 tw_808) rfl rfl rfl cv_yX4_expectSemicolon_0 ⟨Nat.le_of_ble_eq_true rfl, Nat.le_of_ble_eq_true rfl⟩) ⟨pq_blind, pq_recv hK hP hL_this hK_this (by decide +kernel) rfl, pq_pre hK hN hP hD⟩ rfl rfl hl.1 rfl (lv_room (Nat.le_of_ble_eq_true rfl)) dX4_readKeys_71 ⟨Nat.le_of_ble_eq_true rfl, Nat.le_of_ble_eq_true rfl⟩) hD hS hA (fun σ1 μ1 H locs hw_819 hP hD hS => ?_)
            obtain ⟨I_820, hu_821, hg_822, hp_824, hfn_825, hfr_826⟩ := hw_819
            obtain ⟨hu_821a, hu_821b⟩ := Prod.mk.inj hu_821
            rw [hu_821a, hu_821b] at hP hD
            replace hF := hF.trans (bv_n hfn_825)
            replace hFr := fr_tr hFr hfr_826
            have tt_827 := hp_824
            have hG := GX.tr hG hg_822 (by decide +kernel)
            have tt_828 : (I_820 132 this).toInt = (I_652 132 this).toInt := by rw [hg_822.2.1 132 (by decide +kernel) (by decide +kernel)]
            have tt_829 : (I_820 134 this).toInt = (I_652 134 this).toInt := by rw [hg_822.2.1 134 (by decide +kernel) (by decide +kernel)]
            have tt_830 : (I_820 197 this_scanner).toInt = (I_652 197 this_scanner).toInt := by rw [hg_822.2.1 197 (by decide +kernel) (by decide +kernel)]
            have tt_831 : (I_820 194 this_scanner).toInt = (I_652 194 this_scanner).toInt := by rw [hg_822.2.1 194 (by decide +kernel) (by decide +kernel)]
            subst hQ
            exact W.vret hx hb hr (fun t1 ht hW => ⟨⟨(σ, I_820, J, ri_653, rj, rq), rfl, ⟨I_820, ri_653, rfl, hG, (by omega), hrel_787, (hF0.symm.trans hF), hFr⟩, by rw [ht]; exact hP, va_K.moved hW.alike hK, hD⟩, hS.F ht⟩) hS.2.2 dX4_readKeys_74
          · replace hF := hF.trans (if_neg c_811)
            have tc_832 : (x_650).toInt ≤ 4 := Int32.le_iff_toInt_le.mp (nlt c_811)
            have h_833 : rg x_650 0 4 := rg_le1 (nlt c_811) h_784 (rg_k (4 : Int32) 4 rfl) (by decide +kernel)
            have uh_833 := h_833.1
            have vh_833 := h_833.2
            refine lv_aload_n hx hb dX4_readKeys_13 rfl (lv_at hl 0 rfl) ?_
            refine pg_f (v := .int (I_652 129 this)) (C := RX4) (T := TX4) (N := 12) hx hb hts (tw_i inlX4) hown hK hP hL_this hK_this (by decide +kernel) rfl 1 (by decide +kernel) (hts _ (tw_c tw_155)) rfl dX4_readKeys_14 ?_
            replace hF := hF.trans (ap_n (vI_e (f := 129) hO_this (by decide +kernel)))
            refine lv_if_ne (tgt := 70) hx hb dX4_readKeys_17 (by decide +kernel) (fun c_835 => ?_) (fun c_835 => ?_)
            · replace hF := hF.trans (if_neg c_835)
              have tc_839 : (I_652 129 this).toInt ≠ 0 := fun q => c_835 (Int32.toInt_inj.mp q)
              refine lv_aload_n hx hb dX4_readKeys_70 rfl (lv_at hl 0 rfl) ?_
              refine pk_v (va_runV (As := []) (rest := []) ⟨hx, hb, hml, hown, hts⟩ (s_X4_expectSemicolon l D t σ I_652 J ri_653 rj rq H.size tg hSH hG.1 this hL_this hK_this) (cwV 0 hts (tw_V tw_805 tw_806 tw_807 tw_25 tw_808) rfl rfl rfl cv_yX4_expectSemicolon_0 ⟨Nat.le_of_ble_eq_true rfl, Nat.le_of_ble_eq_true rfl⟩) ⟨pq_blind, pq_recv hK hP hL_this hK_this (by decide +kernel) rfl, pq_pre hK hN hP hD⟩ rfl rfl hl.1 rfl (lv_room (Nat.le_of_ble_eq_true rfl)) dX4_readKeys_71 ⟨Nat.le_of_ble_eq_true rfl, Nat.le_of_ble_eq_true rfl⟩) hD hS hA (fun σ1 μ1 H locs hw_841 hP hD hS => ?_)
              obtain ⟨I_842, hu_843, hg_844, hp_846, hfn_847, hfr_848⟩ := hw_841
              obtain ⟨hu_843a, hu_843b⟩ := Prod.mk.inj hu_843
              rw [hu_843a, hu_843b] at hP hD
              replace hF := hF.trans (bv_n hfn_847)
              replace hFr := fr_tr hFr hfr_848
              have tt_849 := hp_846
              have hG := GX.tr hG hg_844 (by decide +kernel)
              have tt_850 : (I_842 132 this).toInt = (I_652 132 this).toInt := by rw [hg_844.2.1 132 (by decide +kernel) (by decide +kernel)]
              have tt_851 : (I_842 134 this).toInt = (I_652 134 this).toInt := by rw [hg_844.2.1 134 (by decide +kernel) (by decide +kernel)]
              have tt_852 : (I_842 197 this_scanner).toInt = (I_652 197 this_scanner).toInt := by rw [hg_844.2.1 197 (by decide +kernel) (by decide +kernel)]
              have tt_853 : (I_842 194 this_scanner).toInt = (I_652 194 this_scanner).toInt := by rw [hg_844.2.1 194 (by decide +kernel) (by decide +kernel)]
              subst hQ
              exact W.vret hx hb hr (fun t1 ht hW => ⟨⟨(σ, I_842, J, ri_653, rj, rq), rfl, ⟨I_842, ri_653, rfl, hG, (by omega), hrel_787, (hF0.symm.trans hF), hFr⟩, by rw [ht]; exact hP, va_K.moved hW.alike hK, hD⟩, hS.F ht⟩) hS.2.2 dX4_readKeys_74
            · replace hF := hF.trans (if_pos c_835)
              have tc_854 : (I_652 129 this).toInt = 0 := congrArg Int32.toInt c_835
              have h_855 : rg (I_652 129 this) 0 0 := rg_and (rg_full _) (rg_of_eq c_835 (rg_k (0 : Int32) 0 rfl)) (by decide +kernel)
              have uh_855 := h_855.1
              have vh_855 := h_855.2
              refine lv_aload_n hx hb dX4_readKeys_20 rfl (lv_at hl 0 rfl) ?_
              refine pg_f (v := .ref this_scanner) (C := RX4) (T := TX4) (N := 12) hx hb hts (tw_i inlX4) hown hK hP hL_this hK_this (by decide +kernel) rfl 0 (by decide +kernel) (hts _ (tw_c tw_154)) (pq_hv rfl hR_this_scanner) dX4_readKeys_21 ?_
              refine pk_v (va_runV (As := []) (rest := []) ⟨hx, hb, hml, hown, hts⟩ (s_X6_advance l D t σ I_652 J ri_653 rj rq H.size aK aV vF tg hSH hG.1 this_scanner hL_this_scanner hK_this_scanner this hL_this hK_this hO_this_scanner) (cwV 0 hts (tw_V tw_663 tw_664 tw_665 tw_153 tw_666) rfl rfl rfl cv_yX6_advance_0 ⟨Nat.le_of_ble_eq_true rfl, Nat.le_of_ble_eq_true rfl⟩) ⟨pq_blindS, pq_recv hK hP hL_this_scanner hK_this_scanner (by decide +kernel) rfl, pq_preS hK hN hP hD hS hA hW0⟩ rfl rfl hl.1 rfl (lv_room (Nat.le_of_ble_eq_true rfl)) dX4_readKeys_24 ⟨Nat.le_of_ble_eq_true rfl, Nat.le_of_ble_eq_true rfl⟩) hD hS hA (fun σ1 μ1 H locs hw_857 hP hD hS => ?_)
              obtain ⟨I_858, hu_859, hg_860, hp_862, hp_863, hfn_864, hfr_865⟩ := hw_857
              obtain ⟨hu_859a, hu_859b⟩ := Prod.mk.inj hu_859
              rw [hu_859a, hu_859b] at hP hD
              replace hF := hF.trans (bv_n hfn_864)
              replace hFr := fr_tr hFr hfr_865
              have tt_866 := hp_862
              have tt_867 := hp_863
              have hG := GX.tr hG hg_860 (by decide +kernel)
              have tt_868 : (I_858 132 this).toInt = (I_652 132 this).toInt := by rw [hg_860.2.1 132 (by decide +kernel) (by decide +kernel)]
              have tt_869 : (I_858 134 this).toInt = (I_652 134 this).toInt := by rw [hg_860.2.1 134 (by decide +kernel) (by decide +kernel)]
              have tt_870 : (I_858 129 this).toInt = (I_652 129 this).toInt := by rw [hg_860.2.1 129 (by decide +kernel) (by decide +kernel)]
              refine lv_aload_n hx hb dX4_readKeys_27 rfl (lv_at hl 0 rfl) ?_
              refine lv_iload_n hx hb dX4_readKeys_28 rfl (lv_at hl 1 rfl) ?_
              refine pk_v (va_runV (As := [.int x_650]) (rest := []) ⟨hx, hb, hml, hown, hts⟩ (s_X4_readKey l D t σ I_858 J ri_653 rj rq H.size aK aV vF tg hSH hG.1 this x_650 hL_this hK_this this_scanner hR_this_scanner hL_this_scanner hK_this_scanner) (cwV 1 hts (tw_V tw_801 tw_802 tw_803 tw_25 tw_804) rfl rfl rfl cv_yX4_readKey_1 ⟨Nat.le_of_ble_eq_true rfl, Nat.le_of_ble_eq_true rfl⟩) ⟨pq_blindS, pq_recv hK hP hL_this hK_this (by decide +kernel) rfl, pq_preS hK hN hP hD hS hA hW0⟩ rfl rfl hl.1 rfl (lv_room (Nat.le_of_ble_eq_true rfl)) dX4_readKeys_29 ⟨Nat.le_of_ble_eq_true rfl, Nat.le_of_ble_eq_true rfl⟩) hD hS hA (fun σ1 μ1 H locs hw_872 hP hD hS => ?_)
              obtain ⟨I_873, ri_874, hu_875, hg_876, hp_878, hp_879, hfn_880, hfr_881⟩ := hw_872
              obtain ⟨hu_875a, hu_875b⟩ := Prod.mk.inj hu_875
              rw [hu_875a, hu_875b] at hP hD
              replace hF := hF.trans (bv_n hfn_880)
              replace hFr := fr_tr hFr hfr_881
              have tt_882 := hp_878
              have tt_883 := hp_879
              have hG := GX.tr hG hg_876 (by decide +kernel)
              have tt_884 : (I_873 134 this).toInt = (I_858 134 this).toInt := by rw [hg_876.2.1 134 (by decide +kernel) (by decide +kernel)]
              obtain ⟨x_885, ex_885⟩ : ∃ y : Int32, y = x_650 + Int32.ofInt 1 := ⟨_, rfl⟩
              replace hF := hF.trans (ap_n ex_885)
              have h_886 : rg x_885 1 5 := rg_of_eq ex_885 (rg_add h_833 (rg_k (Int32.ofInt 1) 1 rfl) (by decide +kernel))
              have uh_886 := h_886.1
              have vh_886 := h_886.2
              have tx_885 : (x_885).toInt = (x_650).toInt + 1 := by rw [ex_885]; exact i_add_rg (a2 := (x_650).toInt) (b2 := 1) rfl rfl h_833 (rg_k (Int32.ofInt 1) 1 rfl) (by decide +kernel)
              refine lv_iinc (v := x_885) (lv' := [(1, .int x_885), (0, .ref this), (2, .int x_651)]) hx hb dX4_readKeys_32 hl (k := 1) rfl ex_885.symm (by decide +kernel) rfl (fun ls hl => ?_)
              refine lv_aload_n hx hb dX4_readKeys_35 rfl (lv_at hl 1 rfl) ?_
              refine pg_f (v := .int (I_873 129 this)) (C := RX4) (T := TX4) (N := 12) hx hb hts (tw_i inlX4) hown hK hP hL_this hK_this (by decide +kernel) rfl 1 (by decide +kernel) (hts _ (tw_c tw_155)) rfl dX4_readKeys_36 ?_
              replace hF := hF.trans (ap_n (vI_e (f := 129) hO_this (by decide +kernel)))
              refine lv_if_ne (tgt := 49) hx hb dX4_readKeys_39 (by decide +kernel) (fun c_888 => ?_) (fun c_888 => ?_)
              · replace hF := hF.trans (if_neg c_888)
                have tc_892 : (I_873 129 this).toInt ≠ 0 := fun q => c_888 (Int32.toInt_inj.mp q)
                refine lv_aload_n hx hb dX4_readKeys_49 rfl (lv_at hl 1 rfl) ?_
                refine pg_f (v := .ref this_scanner) (C := RX4) (T := TX4) (N := 12) hx hb hts (tw_i inlX4) hown hK hP hL_this hK_this (by decide +kernel) rfl 0 (by decide +kernel) (hts _ (tw_c tw_154)) (pq_hv rfl hR_this_scanner) dX4_readKeys_50 ?_
                refine pg_f (v := .int (I_873 194 this_scanner)) (C := RX6) (T := TX6) (N := 6) hx hb hts (tw_i inlX6) hown hK hP hL_this_scanner hK_this_scanner (by decide +kernel) rfl 2 (by decide +kernel) (hts _ (tw_c tw_657)) rfl dX4_readKeys_53 ?_
                replace hF := hF.trans (ap_n (vI_e (f := 194) hO_this_scanner (by decide +kernel)))
                refine lv_bipush (v := 31) hx hb dX4_readKeys_56 (by decide +kernel) ?_
                refine lv_icmp_ne (tgt := 65) hx hb dX4_readKeys_58 (by decide +kernel) (fun c_894 => ?_) (fun c_894 => ?_)
                · replace hF := hF.trans (if_neg c_894)
                  have tc_898 : (I_873 194 this_scanner).toInt ≠ 31 := fun q => c_894 (Int32.toInt_inj.mp q)
                  refine lv_iconst (v := 0) hx hb dX4_readKeys_65 (by decide +kernel) ?_
                  refine lv_istore_n (lv' := [(2, .int 0), (1, .int x_885), (0, .ref this)]) hx hb dX4_readKeys_66 rfl hl (by decide +kernel) rfl (fun ls hl => ?_)
                  refine lv_goto (tgt := 4) hx hb dX4_readKeys_67 (by decide +kernel) ?_
                  exact ih_779 x_885 (0 : Int32) I_873 ri_874 _ _ _ (rg_w h_886 (by decide +kernel)) (rg_w (rg_k (0 : Int32) 0 rfl) (by decide +kernel)) (by have k0 : (0 : Int32).toInt = 0 := rfl; omega) (ft_t hrel_787 hp_879) (ms_up 1 hm_776 ex_885 rfl (by decide +kernel) h_833 (by decide +kernel) (by decide +kernel)) hF hFr hG hP hD hS (lv_sub hl [2, 1, 0] rfl)
                · replace hF := hF.trans (if_pos c_894)
                  have tc_899 : (I_873 194 this_scanner).toInt = 31 := congrArg Int32.toInt c_894
                  have h_900 : rg (I_873 194 this_scanner) 31 31 := rg_and (rg_full _) (rg_of_eq c_894 (rg_k (31 : Int32) 31 rfl)) (by decide +kernel)
                  have uh_900 := h_900.1
                  have vh_900 := h_900.2
                  refine lv_iconst (v := 1) hx hb dX4_readKeys_61 (by decide +kernel) ?_
                  refine lv_goto (tgt := 66) hx hb dX4_readKeys_62 (by decide +kernel) ?_
                  refine lv_istore_n (lv' := [(2, .int 1), (1, .int x_885), (0, .ref this)]) hx hb dX4_readKeys_66 rfl hl (by decide +kernel) rfl (fun ls hl => ?_)
                  refine lv_goto (tgt := 4) hx hb dX4_readKeys_67 (by decide +kernel) ?_
                  exact ih_779 x_885 (1 : Int32) I_873 ri_874 _ _ _ (rg_w h_886 (by decide +kernel)) (rg_w (rg_k (1 : Int32) 1 rfl) (by decide +kernel)) (by have k0 : (1 : Int32).toInt = 1 := rfl; omega) (ft_t hrel_787 hp_879) (ms_up 1 hm_776 ex_885 rfl (by decide +kernel) h_833 (by decide +kernel) (by decide +kernel)) hF hFr hG hP hD hS (lv_sub hl [2, 1, 0] rfl)
              · replace hF := hF.trans (if_pos c_888)
                have tc_901 : (I_873 129 this).toInt = 0 := congrArg Int32.toInt c_888
                have h_902 : rg (I_873 129 this) 0 0 := rg_and (rg_full _) (rg_of_eq c_888 (rg_k (0 : Int32) 0 rfl)) (by decide +kernel)
                have uh_902 := h_902.1
                have vh_902 := h_902.2
                refine lv_aload_n hx hb dX4_readKeys_42 rfl (lv_at hl 1 rfl) ?_
                refine pg_f (v := .ref this_scanner) (C := RX4) (T := TX4) (N := 12) hx hb hts (tw_i inlX4) hown hK hP hL_this hK_this (by decide +kernel) rfl 0 (by decide +kernel) (hts _ (tw_c tw_154)) (pq_hv rfl hR_this_scanner) dX4_readKeys_43 ?_
                refine pk_v (va_runV (As := []) (rest := []) ⟨hx, hb, hml, hown, hts⟩ (s_X6_advance l D t σ I_873 J ri_874 rj rq H.size aK aV vF tg hSH hG.1 this_scanner hL_this_scanner hK_this_scanner this hL_this hK_this hO_this_scanner) (cwV 0 hts (tw_V tw_663 tw_664 tw_665 tw_153 tw_666) rfl rfl rfl cv_yX6_advance_0 ⟨Nat.le_of_ble_eq_true rfl, Nat.le_of_ble_eq_true rfl⟩) ⟨pq_blindS, pq_recv hK hP hL_this_scanner hK_this_scanner (by decide +kernel) rfl, pq_preS hK hN hP hD hS hA hW0⟩ rfl rfl hl.1 rfl (lv_room (Nat.le_of_ble_eq_true rfl)) dX4_readKeys_46 ⟨Nat.le_of_ble_eq_true rfl, Nat.le_of_ble_eq_true rfl⟩) hD hS hA (fun σ1 μ1 H locs hw_904 hP hD hS => ?_)
                obtain ⟨I_905, hu_906, hg_907, hp_909, hp_910, hfn_911, hfr_912⟩ := hw_904
                obtain ⟨hu_906a, hu_906b⟩ := Prod.mk.inj hu_906
                rw [hu_906a, hu_906b] at hP hD
                replace hF := hF.trans (bv_n hfn_911)
                replace hFr := fr_tr hFr hfr_912
                have tt_913 := hp_909
                have tt_914 := hp_910
                have hG := GX.tr hG hg_907 (by decide +kernel)
                have tt_915 : (I_905 132 this).toInt = (I_873 132 this).toInt := by rw [hg_907.2.1 132 (by decide +kernel) (by decide +kernel)]
                have tt_916 : (I_905 134 this).toInt = (I_873 134 this).toInt := by rw [hg_907.2.1 134 (by decide +kernel) (by decide +kernel)]
                have tt_917 : (I_905 129 this).toInt = (I_873 129 this).toInt := by rw [hg_907.2.1 129 (by decide +kernel) (by decide +kernel)]
                refine lv_aload_n hx hb dX4_readKeys_49 rfl (lv_at hl 1 rfl) ?_
                refine pg_f (v := .ref this_scanner) (C := RX4) (T := TX4) (N := 12) hx hb hts (tw_i inlX4) hown hK hP hL_this hK_this (by decide +kernel) rfl 0 (by decide +kernel) (hts _ (tw_c tw_154)) (pq_hv rfl hR_this_scanner) dX4_readKeys_50 ?_
                refine pg_f (v := .int (I_905 194 this_scanner)) (C := RX6) (T := TX6) (N := 6) hx hb hts (tw_i inlX6) hown hK hP hL_this_scanner hK_this_scanner (by decide +kernel) rfl 2 (by decide +kernel) (hts _ (tw_c tw_657)) rfl dX4_readKeys_53 ?_
                replace hF := hF.trans (ap_n (vI_e (f := 194) hO_this_scanner (by decide +kernel)))
                refine lv_bipush (v := 31) hx hb dX4_readKeys_56 (by decide +kernel) ?_
                refine lv_icmp_ne (tgt := 65) hx hb dX4_readKeys_58 (by decide +kernel) (fun c_919 => ?_) (fun c_919 => ?_)
                · replace hF := hF.trans (if_neg c_919)
                  have tc_923 : (I_905 194 this_scanner).toInt ≠ 31 := fun q => c_919 (Int32.toInt_inj.mp q)
                  refine lv_iconst (v := 0) hx hb dX4_readKeys_65 (by decide +kernel) ?_
                  refine lv_istore_n (lv' := [(2, .int 0), (1, .int x_885), (0, .ref this)]) hx hb dX4_readKeys_66 rfl hl (by decide +kernel) rfl (fun ls hl => ?_)
                  refine lv_goto (tgt := 4) hx hb dX4_readKeys_67 (by decide +kernel) ?_
                  exact ih_779 x_885 (0 : Int32) I_905 ri_874 _ _ _ (rg_w h_886 (by decide +kernel)) (rg_w (rg_k (0 : Int32) 0 rfl) (by decide +kernel)) (by have k0 : (0 : Int32).toInt = 0 := rfl; omega) (ft_t hrel_787 hp_879) (ms_up 1 hm_776 ex_885 rfl (by decide +kernel) h_833 (by decide +kernel) (by decide +kernel)) hF hFr hG hP hD hS (lv_sub hl [2, 1, 0] rfl)
                · replace hF := hF.trans (if_pos c_919)
                  have tc_924 : (I_905 194 this_scanner).toInt = 31 := congrArg Int32.toInt c_919
                  have h_925 : rg (I_905 194 this_scanner) 31 31 := rg_and (rg_full _) (rg_of_eq c_919 (rg_k (31 : Int32) 31 rfl)) (by decide +kernel)
                  have uh_925 := h_925.1
                  have vh_925 := h_925.2
                  refine lv_iconst (v := 1) hx hb dX4_readKeys_61 (by decide +kernel) ?_
                  refine lv_goto (tgt := 66) hx hb dX4_readKeys_62 (by decide +kernel) ?_
                  refine lv_istore_n (lv' := [(2, .int 1), (1, .int x_885), (0, .ref this)]) hx hb dX4_readKeys_66 rfl hl (by decide +kernel) rfl (fun ls hl => ?_)
                  refine lv_goto (tgt := 4) hx hb dX4_readKeys_67 (by decide +kernel) ?_
                  exact ih_779 x_885 (1 : Int32) I_905 ri_874 _ _ _ (rg_w h_886 (by decide +kernel)) (rg_w (rg_k (1 : Int32) 1 rfl) (by decide +kernel)) (by have k0 : (1 : Int32).toInt = 1 := rfl; omega) (ft_t hrel_787 hp_879) (ms_up 1 hm_776 ex_885 rfl (by decide +kernel) h_833 (by decide +kernel) (by decide +kernel)) hF hFr hG hP hD hS (lv_sub hl [2, 1, 0] rfl)
    exact L_778 _ (0 : Int32) (1 : Int32) I ri _ _ _ (rg_w (rg_k (0 : Int32) 0 rfl) (by decide +kernel)) (rg_w (rg_k (1 : Int32) 1 rfl) (by decide +kernel)) (by have k0 : (0 : Int32).toInt = 0 := rfl; have k1 : (1 : Int32).toInt = 1 := rfl; omega) (fun _ _ => rfl) (Nat.lt_succ_self _) hF hFr hG hP hD hS (lv_sub hl [2, 1, 0] rfl)
  exact go _ _ _ hP hD hS hl

set_option maxRecDepth 100000 in
def g_X4_readClause (I : Nat → Int32) (J : Nat → Int64) (ri : Nat → Nat → Int32) (rj : Nat → Nat → Int64) (rq : Nat → Nat → Option Nat) : vM := (ap1 (I 194) fun (y_1 : Int32) => (if (y_1) ≤ (8 : Int32) then (if (y_1) < (4 : Int32) then (ap1 (I 256) fun (y_17 : Int32) => (if (y_17) < (20 : Int32) then (ap1 (va_up ri 257 (upd (ri 257) ((y_17)).toNatClampNeg (y_1))) fun (r_26 : Nat → Nat → Int32) => (ap1 ((y_17) + (1 : Int32)) fun (x_27 : Int32) => (ap1 (va_up I 256 x_27) fun (I_29 : Nat → Int32) => (bnV (g_X4_readEither I_29 J r_26 rj rq) fun (I_43 : Nat → Int32) (_ : Nat → Int64) (ri_44 : Nat → Nat → Int32) (_ : Nat → Nat → Int64) (_ : Nat → Nat → Option Nat) => (ap1 (I_43 256) fun (y_56 : Int32) => (ap1 (I_43 132) fun (y_58 : Int32) => (ap1 (va_up ri_44 258 (upd (ri_44 258) ((y_56)).toNatClampNeg (y_58))) fun (r_59 : Nat → Nat → Int32) => (I_43, J, r_59, rj, rq)))))))) else (bnV (g_X4_refuse (5 : Int32) I J ri rj rq) fun (I_64 : Nat → Int32) (_ : Nat → Int64) (_ : Nat → Nat → Int32) (_ : Nat → Nat → Int64) (_ : Nat → Nat → Option Nat) => (I_64, J, ri, rj, rq)))) else (bnI (g_X8_firstOf_R (y_1) I J ri rj rq) fun (x_79 : Int32) (_ : Nat → Int32) (_ : Nat → Int64) (_ : Nat → Nat → Int32) (_ : Nat → Nat → Int64) (_ : Nat → Nat → Option Nat) => (if x_79 = (-1 : Int32) then (ap1 (I 256) fun (y_95 : Int32) => (if (y_95) < (20 : Int32) then (ap1 (va_up ri 257 (upd (ri 257) ((y_95)).toNatClampNeg (y_1))) fun (r_104 : Nat → Nat → Int32) => (ap1 ((y_95) + (1 : Int32)) fun (x_105 : Int32) => (ap1 (va_up I 256 x_105) fun (I_107 : Nat → Int32) => (if (5 : Int32) < (y_1) then (ap1 (g_X4_mostOf (y_1)) fun (x_125 : Int32) => (bnV (g_X4_readNumber x_125 I_107 J r_104 rj rq) fun (I_134 : Nat → Int32) (_ : Nat → Int64) (ri_135 : Nat → Nat → Int32) (_ : Nat → Nat → Int64) (_ : Nat → Nat → Option Nat) => (ap1 (I_134 256) fun (y_148 : Int32) => (ap1 (I_134 132) fun (y_150 : Int32) => (ap1 (va_up ri_135 258 (upd (ri_135 258) ((y_148)).toNatClampNeg (y_150))) fun (r_151 : Nat → Nat → Int32) => (I_134, J, r_151, rj, rq)))))) else (bnV (g_X4_readKeys I_107 J r_104 rj rq) fun (I_156 : Nat → Int32) (_ : Nat → Int64) (ri_157 : Nat → Nat → Int32) (_ : Nat → Nat → Int64) (_ : Nat → Nat → Option Nat) => (ap1 (I_156 256) fun (y_170 : Int32) => (ap1 (I_156 132) fun (y_172 : Int32) => (ap1 (va_up ri_157 258 (upd (ri_157 258) ((y_170)).toNatClampNeg (y_172))) fun (r_173 : Nat → Nat → Int32) => (I_156, J, r_173, rj, rq))))))))) else (bnV (g_X4_refuse (5 : Int32) I J ri rj rq) fun (I_179 : Nat → Int32) (_ : Nat → Int64) (_ : Nat → Nat → Int32) (_ : Nat → Nat → Int64) (_ : Nat → Nat → Option Nat) => (I_179, J, ri, rj, rq)))) else (bnV (g_X4_refuse (4 : Int32) I J ri rj rq) fun (I_196 : Nat → Int32) (_ : Nat → Int64) (_ : Nat → Nat → Int32) (_ : Nat → Nat → Int64) (_ : Nat → Nat → Option Nat) => (I_196, J, ri, rj, rq))))) else (bnV (g_X4_refuse (1 : Int32) I J ri rj rq) fun (I_213 : Nat → Int32) (_ : Nat → Int64) (_ : Nat → Nat → Int32) (_ : Nat → Nat → Int64) (_ : Nat → Nat → Option Nat) => (I_213, J, ri, rj, rq))))
set_option maxRecDepth 100000 in
theorem g_X4_readClause_e {I : Nat → Int32} {J : Nat → Int64} {ri : Nat → Nat → Int32} {rj : Nat → Nat → Int64} {rq : Nat → Nat → Option Nat} : g_X4_readClause I J ri rj rq = (ap1 (I 194) fun (y_1 : Int32) => (if (y_1) ≤ (8 : Int32) then (if (y_1) < (4 : Int32) then (ap1 (I 256) fun (y_17 : Int32) => (if (y_17) < (20 : Int32) then (ap1 (va_up ri 257 (upd (ri 257) ((y_17)).toNatClampNeg (y_1))) fun (r_26 : Nat → Nat → Int32) => (ap1 ((y_17) + (1 : Int32)) fun (x_27 : Int32) => (ap1 (va_up I 256 x_27) fun (I_29 : Nat → Int32) => (bnV (g_X4_readEither I_29 J r_26 rj rq) fun (I_43 : Nat → Int32) (_ : Nat → Int64) (ri_44 : Nat → Nat → Int32) (_ : Nat → Nat → Int64) (_ : Nat → Nat → Option Nat) => (ap1 (I_43 256) fun (y_56 : Int32) => (ap1 (I_43 132) fun (y_58 : Int32) => (ap1 (va_up ri_44 258 (upd (ri_44 258) ((y_56)).toNatClampNeg (y_58))) fun (r_59 : Nat → Nat → Int32) => (I_43, J, r_59, rj, rq)))))))) else (bnV (g_X4_refuse (5 : Int32) I J ri rj rq) fun (I_64 : Nat → Int32) (_ : Nat → Int64) (_ : Nat → Nat → Int32) (_ : Nat → Nat → Int64) (_ : Nat → Nat → Option Nat) => (I_64, J, ri, rj, rq)))) else (bnI (g_X8_firstOf_R (y_1) I J ri rj rq) fun (x_79 : Int32) (_ : Nat → Int32) (_ : Nat → Int64) (_ : Nat → Nat → Int32) (_ : Nat → Nat → Int64) (_ : Nat → Nat → Option Nat) => (if x_79 = (-1 : Int32) then (ap1 (I 256) fun (y_95 : Int32) => (if (y_95) < (20 : Int32) then (ap1 (va_up ri 257 (upd (ri 257) ((y_95)).toNatClampNeg (y_1))) fun (r_104 : Nat → Nat → Int32) => (ap1 ((y_95) + (1 : Int32)) fun (x_105 : Int32) => (ap1 (va_up I 256 x_105) fun (I_107 : Nat → Int32) => (if (5 : Int32) < (y_1) then (ap1 (g_X4_mostOf (y_1)) fun (x_125 : Int32) => (bnV (g_X4_readNumber x_125 I_107 J r_104 rj rq) fun (I_134 : Nat → Int32) (_ : Nat → Int64) (ri_135 : Nat → Nat → Int32) (_ : Nat → Nat → Int64) (_ : Nat → Nat → Option Nat) => (ap1 (I_134 256) fun (y_148 : Int32) => (ap1 (I_134 132) fun (y_150 : Int32) => (ap1 (va_up ri_135 258 (upd (ri_135 258) ((y_148)).toNatClampNeg (y_150))) fun (r_151 : Nat → Nat → Int32) => (I_134, J, r_151, rj, rq)))))) else (bnV (g_X4_readKeys I_107 J r_104 rj rq) fun (I_156 : Nat → Int32) (_ : Nat → Int64) (ri_157 : Nat → Nat → Int32) (_ : Nat → Nat → Int64) (_ : Nat → Nat → Option Nat) => (ap1 (I_156 256) fun (y_170 : Int32) => (ap1 (I_156 132) fun (y_172 : Int32) => (ap1 (va_up ri_157 258 (upd (ri_157 258) ((y_170)).toNatClampNeg (y_172))) fun (r_173 : Nat → Nat → Int32) => (I_156, J, r_173, rj, rq))))))))) else (bnV (g_X4_refuse (5 : Int32) I J ri rj rq) fun (I_179 : Nat → Int32) (_ : Nat → Int64) (_ : Nat → Nat → Int32) (_ : Nat → Nat → Int64) (_ : Nat → Nat → Option Nat) => (I_179, J, ri, rj, rq)))) else (bnV (g_X4_refuse (4 : Int32) I J ri rj rq) fun (I_196 : Nat → Int32) (_ : Nat → Int64) (_ : Nat → Nat → Int32) (_ : Nat → Nat → Int64) (_ : Nat → Nat → Option Nat) => (I_196, J, ri, rj, rq))))) else (bnV (g_X4_refuse (1 : Int32) I J ri rj rq) fun (I_213 : Nat → Int32) (_ : Nat → Int64) (_ : Nat → Nat → Int32) (_ : Nat → Nat → Int64) (_ : Nat → Nat → Option Nat) => (I_213, J, ri, rj, rq)))) := rfl
set_option maxHeartbeats 4000000 in
set_option maxRecDepth 100000 in
theorem s_X4_readClause (l : Launch) (D : va_G) (t : pq_T) (σ : pq_S) (I : Nat → Nat → Int32) (J : Nat → Nat → Int64) (ri : Nat → Nat → Int32) (rj : Nat → Nat → Int64) (rq : Nat → Nat → Option Nat) (sz : Nat) (aK aV : Nat) (vF : Value) (tg : Nat → Nat) (hSH : SH σ tg) (hG0 : GS tg σ I ri rq) (this : Nat) (hL_this : this ∈ σ.1) (hK_this : σ.2.1 this = 4) (this_scanner : Nat) (hR_this_scanner : σ.2.2.1 128 this = some this_scanner) (hL_this_scanner : this_scanner ∈ σ.1) (hK_this_scanner : σ.2.1 this_scanner = 6) (this_draft : Nat) (hR_this_draft : σ.2.2.1 131 this = some this_draft) (hL_this_draft : this_draft ∈ σ.1) (hK_this_draft : σ.2.1 this_draft = 8) (this_draft_from : Nat) (hR_this_draft_from : σ.2.2.1 258 this_draft = some this_draft_from) (hL_this_draft_from : this_draft_from ∈ σ.1) (hK_this_draft_from : σ.2.1 this_draft_from = 13) (hN_this_draft_from : σ.2.2.2 this_draft_from = 21) (hT_this_draft_from : tg this_draft_from = 258) (hfi : FI σ) (hfc : (ri this_draft_from (I 256 this_draft).toNatClampNeg).toInt = (I 132 this).toInt) (hcd : (I 132 this).toInt ≤ 299) (hca : (I 132 this).toInt ≤ (I 197 this_scanner).toInt) : MetVS aK aV vF l yX4_readClause (wa yX4_readClause cX4_readClause 2 none) ({ frames := 8, cells := 0, slots := 0, locals := 173 }) [.ref this] D t σ (I, J, ri, rj, rq) sz 0 0 (fun (u : pq_S × pq_M) => ∃ I' : Nat → Nat → Int32, ∃ ri' : Nat → Nat → Int32, u = (σ, I', J, ri', rj, rq) ∧ GX [256, 134, 197, 194, 129, 132] tg σ I ri rj I' ri' rj rq ∧ ((ri' this_draft_from (I' 256 this_draft).toNatClampNeg).toInt = (I' 132 this).toInt) ∧ (((I' 129 this).toInt = 0 → (I' 132 this).toInt ≤ (I' 197 this_scanner).toInt)) ∧ g_X4_readClause (vI 4 σ this I) (vJ 4 σ this J) (vR 4 σ this ri) (vL 4 σ this rj) (vQ 4 σ this rq) = ((vI 4 σ this I'), (vJ 4 σ this J), (vR 4 σ this ri'), (vL 4 σ this rj), (vQ 4 σ this rq)) ∧ FR 4 tg σ this (I, J, ri, rj, rq) (I', J, ri', rj, rq)) := by
  refine Met.ofW (cc := cX4_readClause) (maxL := 2) (ret := none) (by decide +kernel) rfl ?_
  intro p e s m args below meth c s₁ B hml hv
  obtain ⟨rfl, ⟨hsz, hP, hK, hD0, hN⟩, hW0⟩ := hv
  have hx := B.exec
  have hb := B.bytes
  have hr := B.returns
  have hts := atoms_spec (ws := (wa yX4_readClause cX4_readClause 2 none)) B.pre
  have hown : s.vm.findClass RX4 = some m.cls := findClass_of_methodNamed B.named
  have hlocks := B.notSynchronized
  subst hsz
  have hD : va_D (pq_B t σ (I, J, ri, rj, rq) s.heap.size) (pq_P t σ (I, J, ri, rj, rq)) := hD0.self
  generalize hAe : pq_B t σ (I, J, ri, rj, rq) s.heap.size = A at hD hW0 ⊢
  have hA : ∀ q : Nat, s.heap.size ≤ q → A q := fun q h => by rw [← hAe]; exact Or.inr h
  have hS : va_S A s.heap s.heap [] := va_S.rf
  have hG : GX [256, 134, 197, 194, 129, 132] tg σ I ri rj I ri rj rq := ⟨hG0, fun _ _ _ => rfl, fun _ _ _ _ _ => rfl, fun _ _ _ _ _ => rfl⟩
  have hl := lv_entry ([.ref this]) (n := 2) (Nat.le_of_ble_eq_true rfl)
  rw [lg_entry_eq]
  generalize (lg_sl ([.ref this]) ++ List.replicate (2 - (lg_sl ([.ref this])).length) Slot.unset).toArray = ls at hl ⊢
  have hl : lv_has ls 2 [(0, .ref this)] := hl
  refine q_gen (fun Q hQ => ?_)
  have go : ∀ (H : Heap) (locs : List Loc) (ls : Array Slot), va_P D vwCl (pq_P t σ (I, J, ri, rj, rq)) H → va_D A (pq_P t σ (I, J, ri, rj, rq)) → va_S A s.heap H locs → lv_has ls 2 [(0, .ref this)] → W p l e ({ frames := 8, cells := 0, slots := 0, locals := 173 } : Room) s m (List.toArray ([.ref this] : List Value)) below meth c H locs 0 0 Q (F0 m 0 ls []) := by
    intro H locs ls hP hD hS hl
    have hO_this : this = vo σ 4 this := rfl
    have hVT : VT 4 σ tg this := vt_4 hSH hL_this hK_this
    have hFr : FR 4 tg σ this (I, J, ri, rj, rq) (I, J, ri, rj, rq) := fr_rf
    have hO_this_scanner : this_scanner = vo σ 6 this := vo_k (c := 4) hO_this hR_this_scanner
    have hO_this_draft : this_draft = vo σ 8 this := vo_k (c := 4) hO_this hR_this_draft
    have hO_this_draft_from : this_draft_from = vrow σ 258 this := vo_k (c := 8) hO_this_draft hR_this_draft_from
    obtain ⟨F, hF0⟩ : ∃ F, F = g_X4_readClause (vI 4 σ this I) (vJ 4 σ this J) (vR 4 σ this ri) (vL 4 σ this rj) (vQ 4 σ this rq) := ⟨_, rfl⟩
    have hF := hF0.trans g_X4_readClause_e
    refine lv_aload_n hx hb dX4_readClause_0 rfl (lv_at hl 0 rfl) ?_
    refine pg_f (v := .ref this_scanner) (C := RX4) (T := TX4) (N := 12) hx hb hts (tw_i inlX4) hown hK hP hL_this hK_this (by decide +kernel) rfl 0 (by decide +kernel) (hts _ (tw_c tw_154)) (pq_hv rfl hR_this_scanner) dX4_readClause_1 ?_
    refine pg_f (v := .int (I 194 this_scanner)) (C := RX6) (T := TX6) (N := 6) hx hb hts (tw_i inlX6) hown hK hP hL_this_scanner hK_this_scanner (by decide +kernel) rfl 2 (by decide +kernel) (hts _ (tw_c tw_657)) rfl dX4_readClause_4 ?_
    replace hF := hF.trans (ap_n (vI_e (f := 194) hO_this_scanner (by decide +kernel)))
    refine lv_istore_n (lv' := [(1, .int (I 194 this_scanner)), (0, .ref this)]) hx hb dX4_readClause_7 rfl hl (by decide +kernel) rfl (fun ls hl => ?_)
    refine lv_iload_n hx hb dX4_readClause_8 rfl (lv_at hl 0 rfl) ?_
    refine lv_bipush (v := 8) hx hb dX4_readClause_9 (by decide +kernel) ?_
    refine lv_icmp_le (tgt := 22) hx hb dX4_readClause_11 (by decide +kernel) (fun c_2 => ?_) (fun c_2 => ?_)
    · replace hF := hF.trans (if_pos c_2)
      have tc_7 : (I 194 this_scanner).toInt ≤ 8 := Int32.le_iff_toInt_le.mp c_2
      have h_8 : rg (I 194 this_scanner) (-2147483648) 8 := rg_le1 c_2 (rg_full _) (rg_k (8 : Int32) 8 rfl) (by decide +kernel)
      have uh_8 := h_8.1
      have vh_8 := h_8.2
      refine lv_iload_n hx hb dX4_readClause_22 rfl (lv_at hl 0 rfl) ?_
      refine lv_iconst (v := 4) hx hb dX4_readClause_23 (by decide +kernel) ?_
      refine lv_icmp_lt (tgt := 47) hx hb dX4_readClause_24 (by decide +kernel) (fun c_9 => ?_) (fun c_9 => ?_)
      · replace hF := hF.trans (if_pos c_9)
        have tc_14 : (I 194 this_scanner).toInt < 4 := Int32.lt_iff_toInt_lt.mp c_9
        have h_15 : rg (I 194 this_scanner) (-2147483648) 3 := rg_lt1 c_9 h_8 (rg_k (4 : Int32) 4 rfl) (by decide +kernel)
        have uh_15 := h_15.1
        have vh_15 := h_15.2
        refine lv_aload_n hx hb dX4_readClause_47 rfl (lv_at hl 1 rfl) ?_
        refine pg_f (v := .ref this_draft) (C := RX4) (T := TX4) (N := 12) hx hb hts (tw_i inlX4) hown hK hP hL_this hK_this (by decide +kernel) rfl 3 (by decide +kernel) (hts _ (tw_c tw_160)) (pq_hv rfl hR_this_draft) dX4_readClause_48 ?_
        refine pg_f (v := .int (I 256 this_draft)) (C := RX8) (T := TX8) (N := 4) hx hb hts (tw_i inlX8) hown hK hP hL_this_draft hK_this_draft (by decide +kernel) rfl 0 (by decide +kernel) (hts _ (tw_c tw_745)) rfl dX4_readClause_51 ?_
        have h_16 : rg (I 256 this_draft) 0 20 := GX.rI hG 256 rfl
        have uh_16 := h_16.1
        have vh_16 := h_16.2
        replace hF := hF.trans (ap_n (vI_e (f := 256) hO_this_draft (by decide +kernel)))
        refine lv_bipush (v := 20) hx hb dX4_readClause_54 (by decide +kernel) ?_
        refine lv_icmp_lt (tgt := 67) hx hb dX4_readClause_56 (by decide +kernel) (fun c_18 => ?_) (fun c_18 => ?_)
        · replace hF := hF.trans (if_pos c_18)
          have tc_23 : (I 256 this_draft).toInt < 20 := Int32.lt_iff_toInt_lt.mp c_18
          have h_24 : rg (I 256 this_draft) 0 19 := rg_lt1 c_18 h_16 (rg_k (20 : Int32) 20 rfl) (by decide +kernel)
          have uh_24 := h_24.1
          have vh_24 := h_24.2
          refine lv_aload_n hx hb dX4_readClause_67 rfl (lv_at hl 1 rfl) ?_
          refine pg_f (v := .ref this_draft) (C := RX4) (T := TX4) (N := 12) hx hb hts (tw_i inlX4) hown hK hP hL_this hK_this (by decide +kernel) rfl 3 (by decide +kernel) (hts _ (tw_c tw_160)) (pq_hv rfl hR_this_draft) dX4_readClause_68 ?_
          obtain ⟨w_25, hR_w_25, hL_w_25, hK_w_25, hN_w_25, hT_w_25⟩ := sh_a hSH 257 (ci := 8) (kd := 13) (len := 20) rfl (by decide +kernel) hL_this_draft hK_this_draft
          have hO_w_25 : w_25 = vrow σ 257 this := vo_k (c := 8) hO_this_draft hR_w_25
          refine pg_f (v := .ref w_25) (C := RX8) (T := TX8) (N := 4) hx hb hts (tw_i inlX8) hown hK hP hL_this_draft hK_this_draft (by decide +kernel) rfl 1 (by decide +kernel) (hts _ (tw_c tw_746)) (pq_hv rfl hR_w_25) dX4_readClause_71 ?_
          refine lv_aload_n hx hb dX4_readClause_74 rfl (lv_at hl 1 rfl) ?_
          refine pg_f (v := .ref this_draft) (C := RX4) (T := TX4) (N := 12) hx hb hts (tw_i inlX4) hown hK hP hL_this hK_this (by decide +kernel) rfl 3 (by decide +kernel) (hts _ (tw_c tw_160)) (pq_hv rfl hR_this_draft) dX4_readClause_75 ?_
          refine pg_f (v := .int (I 256 this_draft)) (C := RX8) (T := TX8) (N := 4) hx hb hts (tw_i inlX8) hown hK hP hL_this_draft hK_this_draft (by decide +kernel) rfl 0 (by decide +kernel) (hts _ (tw_c tw_745)) rfl dX4_readClause_78 ?_
          refine lv_iload_n hx hb dX4_readClause_81 rfl (lv_at hl 0 rfl) ?_
          refine pt_i hx hb hK hP hD hS hL_w_25 hK_w_25 hN_w_25 (rg_in h_24 (by decide +kernel)) dX4_readClause_82 (fun r_26 H locs er_26 hP hD hS => ?_)
          replace hFr := fr_R hFr hO_w_25 (by decide +kernel) er_26
          replace hF := hF.trans (ap_n (vR_st hVT hO_w_25 (by decide +kernel) er_26))
          have hG := GX.wR hG hSH hT_w_25 rfl er_26 (rg_w h_15 (by decide +kernel)) (by decide +kernel)
          refine lv_aload_n hx hb dX4_readClause_83 rfl (lv_at hl 1 rfl) ?_
          refine pg_f (v := .ref this_draft) (C := RX4) (T := TX4) (N := 12) hx hb hts (tw_i inlX4) hown hK hP hL_this hK_this (by decide +kernel) rfl 3 (by decide +kernel) (hts _ (tw_c tw_160)) (pq_hv rfl hR_this_draft) dX4_readClause_84 ?_
          refine lv_dup hx hb dX4_readClause_87 rfl ?_
          refine pg_f (v := .int (I 256 this_draft)) (C := RX8) (T := TX8) (N := 4) hx hb hts (tw_i inlX8) hown hK hP hL_this_draft hK_this_draft (by decide +kernel) rfl 0 (by decide +kernel) (hts _ (tw_c tw_745)) rfl dX4_readClause_88 ?_
          refine lv_iconst (v := 1) hx hb dX4_readClause_91 (by decide +kernel) ?_
          refine lv_iadd hx hb dX4_readClause_92 ?_
          refine lv_topi (fun x_27 ex_27 => ?_)
          replace hF := hF.trans (ap_n ex_27)
          have h_28 : rg x_27 1 20 := rg_of_eq ex_27 (rg_add h_24 (rg_k (1 : Int32) 1 rfl) (by decide +kernel))
          have uh_28 := h_28.1
          have vh_28 := h_28.2
          have tx_27 : (x_27).toInt = (I 256 this_draft).toInt + 1 := by rw [ex_27]; exact i_add_rg (a2 := (I 256 this_draft).toInt) (b2 := 1) rfl rfl h_24 (rg_k (1 : Int32) 1 rfl) (by decide +kernel)
          refine pp_i (v := x_27) (ty := .int) (C := RX8) (T := TX8) (N := 4) hx hb hts (tw_i inlX8) tyX8 tyX8_ok nmX8 hown hK hP hD hS hL_this_draft hK_this_draft (by decide +kernel) rfl 0 256 (by decide +kernel) (hts _ (tw_c tw_745)) rfl (tyX8_ok 0 (by decide +kernel)) rfl rfl (Nat.le_of_ble_eq_true rfl) (ps_256 _ _ _ _ _) dX4_readClause_93 (fun I_29 H locs eI_29 hP hD hS => ?_)
          replace hFr := fr_I (f := 256) hFr hO_this_draft (by decide +kernel) eI_29
          replace hF := hF.trans (ap_n (vI_st (f := 256) hO_this_draft (by decide +kernel) eI_29))
          have hq9 : (r_26 this_draft_from (I 256 this_draft).toNatClampNeg).toInt ≤ 299 := by rw [show r_26 this_draft_from = ri this_draft_from from (ft_w (fun _ _ => rfl) er_26 hT_w_25 (by decide +kernel)) this_draft_from hT_this_draft_from]; omega
          have hG := GX.wC hG hR_this_draft_from eI_29 (rg_w h_28 (by decide +kernel)) (by omega) hq9 (by decide +kernel)
          have tt_30 : (I_29 132 this).toInt = (I 132 this).toInt := by rw [eI_29, pq_uf _ _ _ (by decide +kernel)]
          have tt_31 : (I_29 134 this).toInt = (I 134 this).toInt := by rw [eI_29, pq_uf _ _ _ (by decide +kernel)]
          have tt_32 : (I_29 129 this).toInt = (I 129 this).toInt := by rw [eI_29, pq_uf _ _ _ (by decide +kernel)]
          have tt_33 : (I_29 197 this_scanner).toInt = (I 197 this_scanner).toInt := by rw [eI_29, pq_uf _ _ _ (by decide +kernel)]
          have tt_34 : (I_29 194 this_scanner).toInt = (I 194 this_scanner).toInt := by rw [eI_29, pq_uf _ _ _ (by decide +kernel)]
          have tt_35 : (I_29 256 this_draft).toInt = (x_27).toInt := by rw [eI_29, pq_us]
          refine lv_iload_n hx hb dX4_readClause_96 rfl (lv_at hl 0 rfl) ?_
          refine lv_iconst (v := 4) hx hb dX4_readClause_97 (by decide +kernel) ?_
          refine lv_icmp_ge (tgt := 108) hx hb dX4_readClause_98 (by decide +kernel) (fun c_36 => ?_) (fun c_36 => ?_)
          · have tc_39 : 4 ≤ (I 194 this_scanner).toInt := Int32.le_iff_toInt_le.mp c_36
            exact (rg_empty (rg_le2 c_36 (rg_k (4 : Int32) 4 rfl) h_15 (lo := 4) (hi := 3) (by decide +kernel)) (by decide +kernel)).elim
          · have tc_40 : (I 194 this_scanner).toInt < 4 := Int32.lt_iff_toInt_lt.mp (nle c_36)
            refine lv_aload_n hx hb dX4_readClause_101 rfl (lv_at hl 1 rfl) ?_
            refine pk_v (va_runV (As := []) (rest := []) ⟨hx, hb, hml, hown, hts⟩ (s_X4_readEither l D t σ I_29 J r_26 rj rq H.size aK aV vF tg hSH hG.1 this hL_this hK_this this_scanner hR_this_scanner hL_this_scanner hK_this_scanner (by omega)) (cwV 0 hts (tw_V tw_754 tw_755 tw_756 tw_25 tw_757) rfl rfl rfl cv_yX4_readEither_0 ⟨Nat.le_of_ble_eq_true rfl, Nat.le_of_ble_eq_true rfl⟩) ⟨pq_blindS, pq_recv hK hP hL_this hK_this (by decide +kernel) rfl, pq_preS hK hN hP hD hS hA hW0⟩ rfl rfl hl.1 rfl (lv_room (Nat.le_of_ble_eq_true rfl)) dX4_readClause_102 ⟨Nat.le_of_ble_eq_true rfl, Nat.le_of_ble_eq_true rfl⟩) hD hS hA (fun σ1 μ1 H locs hw_42 hP hD hS => ?_)
            obtain ⟨I_43, ri_44, hu_45, hg_46, hp_48, hp_49, hfn_50, hfr_51⟩ := hw_42
            obtain ⟨hu_45a, hu_45b⟩ := Prod.mk.inj hu_45
            rw [hu_45a, hu_45b] at hP hD
            replace hF := hF.trans (bv_n hfn_50)
            replace hFr := fr_tr hFr hfr_51
            have tt_52 := hp_48
            have tt_53 := hp_49
            have hG := GX.tr hG hg_46 (by decide +kernel)
            have tt_54 : (I_43 256 this_draft).toInt = (I_29 256 this_draft).toInt := by rw [hg_46.2.1 256 (by decide +kernel) (by decide +kernel)]
            refine lv_goto (tgt := 128) hx hb dX4_readClause_105 (by decide +kernel) ?_
            refine lv_aload_n hx hb dX4_readClause_128 rfl (lv_at hl 1 rfl) ?_
            refine pg_f (v := .ref this_draft) (C := RX4) (T := TX4) (N := 12) hx hb hts (tw_i inlX4) hown hK hP hL_this hK_this (by decide +kernel) rfl 3 (by decide +kernel) (hts _ (tw_c tw_160)) (pq_hv rfl hR_this_draft) dX4_readClause_129 ?_
            refine pg_f (v := .ref this_draft_from) (C := RX8) (T := TX8) (N := 4) hx hb hts (tw_i inlX8) hown hK hP hL_this_draft hK_this_draft (by decide +kernel) rfl 2 (by decide +kernel) (hts _ (tw_c tw_747)) (pq_hv rfl hR_this_draft_from) dX4_readClause_132 ?_
            refine lv_aload_n hx hb dX4_readClause_135 rfl (lv_at hl 1 rfl) ?_
            refine pg_f (v := .ref this_draft) (C := RX4) (T := TX4) (N := 12) hx hb hts (tw_i inlX4) hown hK hP hL_this hK_this (by decide +kernel) rfl 3 (by decide +kernel) (hts _ (tw_c tw_160)) (pq_hv rfl hR_this_draft) dX4_readClause_136 ?_
            refine pg_f (v := .int (I_43 256 this_draft)) (C := RX8) (T := TX8) (N := 4) hx hb hts (tw_i inlX8) hown hK hP hL_this_draft hK_this_draft (by decide +kernel) rfl 0 (by decide +kernel) (hts _ (tw_c tw_745)) rfl dX4_readClause_139 ?_
            have h_55 : rg (I_43 256 this_draft) 1 20 := (by rw [hg_46.2.1 256 (by decide +kernel) (by decide +kernel)]; exact (by rw [eI_29, pq_us]; exact h_28))
            have uh_55 := h_55.1
            have vh_55 := h_55.2
            replace hF := hF.trans (ap_n (vI_e (f := 256) hO_this_draft (by decide +kernel)))
            refine lv_aload_n hx hb dX4_readClause_142 rfl (lv_at hl 1 rfl) ?_
            refine pg_f (v := .int (I_43 132 this)) (C := RX4) (T := TX4) (N := 12) hx hb hts (tw_i inlX4) hown hK hP hL_this hK_this (by decide +kernel) rfl 4 (by decide +kernel) (hts _ (tw_c tw_656)) rfl dX4_readClause_143 ?_
            have h_57 : rg (I_43 132 this) 0 300 := GX.rI hG 132 rfl
            have uh_57 := h_57.1
            have vh_57 := h_57.2
            replace hF := hF.trans (ap_n (vI_e (f := 132) hO_this (by decide +kernel)))
            refine pt_i hx hb hK hP hD hS hL_this_draft_from hK_this_draft_from hN_this_draft_from (rg_in h_55 (by decide +kernel)) dX4_readClause_146 (fun r_59 H locs er_59 hP hD hS => ?_)
            replace hFr := fr_R hFr hO_this_draft_from (by decide +kernel) er_59
            replace hF := hF.trans (ap_n (vR_st hVT hO_this_draft_from (by decide +kernel) er_59))
            have hG := GX.wF hG hfi hL_this_draft hK_this_draft hR_this_draft_from er_59 (rg_w h_57 (by decide +kernel)) (Int.le_refl _) hT_this_draft_from
            subst hQ
            exact W.vret hx hb hr (fun t1 ht hW => ⟨⟨(σ, I_43, J, r_59, rj, rq), rfl, ⟨I_43, r_59, rfl, hG, (by rw [er_59, va_up_self]; unfold upd; rw [if_pos rfl]), (by omega), (hF0.symm.trans hF), hFr⟩, by rw [ht]; exact hP, va_K.moved hW.alike hK, hD⟩, hS.F ht⟩) hS.2.2 dX4_readClause_147
        · replace hF := hF.trans (if_neg c_18)
          have tc_60 : 20 ≤ (I 256 this_draft).toInt := Int32.le_iff_toInt_le.mp (nlt c_18)
          have h_61 : rg (I 256 this_draft) 20 20 := rg_le2 (nlt c_18) (rg_k (20 : Int32) 20 rfl) h_16 (by decide +kernel)
          have uh_61 := h_61.1
          have vh_61 := h_61.2
          refine lv_aload_n hx hb dX4_readClause_59 rfl (lv_at hl 1 rfl) ?_
          refine lv_iconst (v := 5) hx hb dX4_readClause_60 (by decide +kernel) ?_
          refine pk_v (va_runV (As := [.int 5]) (rest := []) ⟨hx, hb, hml, hown, hts⟩ (s_X4_refuse l D t σ I J ri rj rq H.size tg hSH hG.1 this (5 : Int32) hL_this hK_this (rg_w (rg_k (5 : Int32) 5 rfl) (by decide +kernel))) (cwV 1 hts (tw_V tw_748 tw_749 tw_750 tw_25 tw_751) rfl rfl rfl cv_yX4_refuse_1 ⟨Nat.le_of_ble_eq_true rfl, Nat.le_of_ble_eq_true rfl⟩) ⟨pq_blind, pq_recv hK hP hL_this hK_this (by decide +kernel) rfl, pq_pre hK hN hP hD⟩ rfl rfl hl.1 rfl (lv_room (Nat.le_of_ble_eq_true rfl)) dX4_readClause_61 ⟨Nat.le_of_ble_eq_true rfl, Nat.le_of_ble_eq_true rfl⟩) hD hS hA (fun σ1 μ1 H locs hw_63 hP hD hS => ?_)
          obtain ⟨I_64, hu_65, hg_66, hp_68, hfn_69, hfr_70⟩ := hw_63
          obtain ⟨hu_65a, hu_65b⟩ := Prod.mk.inj hu_65
          rw [hu_65a, hu_65b] at hP hD
          replace hF := hF.trans (bv_n hfn_69)
          replace hFr := fr_tr hFr hfr_70
          have tt_71 := hp_68
          have hG := GX.tr hG hg_66 (by decide +kernel)
          have tt_72 : (I_64 132 this).toInt = (I 132 this).toInt := by rw [hg_66.2.1 132 (by decide +kernel) (by decide +kernel)]
          have tt_73 : (I_64 134 this).toInt = (I 134 this).toInt := by rw [hg_66.2.1 134 (by decide +kernel) (by decide +kernel)]
          have tt_74 : (I_64 197 this_scanner).toInt = (I 197 this_scanner).toInt := by rw [hg_66.2.1 197 (by decide +kernel) (by decide +kernel)]
          have tt_75 : (I_64 194 this_scanner).toInt = (I 194 this_scanner).toInt := by rw [hg_66.2.1 194 (by decide +kernel) (by decide +kernel)]
          have tt_76 : (I_64 256 this_draft).toInt = (I 256 this_draft).toInt := by rw [hg_66.2.1 256 (by decide +kernel) (by decide +kernel)]
          refine lv_goto (tgt := 147) hx hb dX4_readClause_64 (by decide +kernel) ?_
          subst hQ
          exact W.vret hx hb hr (fun t1 ht hW => ⟨⟨(σ, I_64, J, ri, rj, rq), rfl, ⟨I_64, ri, rfl, hG, (by rw [show I_64 256 this_draft = I 256 this_draft from ((congrFun (hg_66.2.1 256 (by decide +kernel) (by decide +kernel)) this_draft).trans rfl)]; omega), (by omega), (hF0.symm.trans hF), hFr⟩, by rw [ht]; exact hP, va_K.moved hW.alike hK, hD⟩, hS.F ht⟩) hS.2.2 dX4_readClause_147
      · replace hF := hF.trans (if_neg c_9)
        have tc_77 : 4 ≤ (I 194 this_scanner).toInt := Int32.le_iff_toInt_le.mp (nlt c_9)
        have h_78 : rg (I 194 this_scanner) 4 8 := rg_le2 (nlt c_9) (rg_k (4 : Int32) 4 rfl) h_8 (by decide +kernel)
        have uh_78 := h_78.1
        have vh_78 := h_78.2
        refine lv_aload_n hx hb dX4_readClause_27 rfl (lv_at hl 1 rfl) ?_
        refine pg_f (v := .ref this_draft) (C := RX4) (T := TX4) (N := 12) hx hb hts (tw_i inlX4) hown hK hP hL_this hK_this (by decide +kernel) rfl 3 (by decide +kernel) (hts _ (tw_c tw_160)) (pq_hv rfl hR_this_draft) dX4_readClause_28 ?_
        refine lv_iload_n hx hb dX4_readClause_31 rfl (lv_at hl 0 rfl) ?_
        refine pk_i (va_runV (As := [.int (I 194 this_scanner)]) (rest := []) ⟨hx, hb, hml, hown, hts⟩ (s_X8_firstOf_R l D t σ I J ri rj rq H.size tg hSH hG.1 this_draft (I 194 this_scanner) hL_this_draft hK_this_draft this hL_this hK_this hO_this_draft) (cwV 1 hts (tw_V tw_753 tw_475 tw_476 tw_159 tw_477) rfl rfl rfl cv_yX8_firstOf_1 ⟨Nat.le_of_ble_eq_true rfl, Nat.le_of_ble_eq_true rfl⟩) ⟨pq_blind, pq_recv hK hP hL_this_draft hK_this_draft (by decide +kernel) rfl, pq_pre hK hN hP hD⟩ rfl rfl hl.1 rfl (lv_room (Nat.le_of_ble_eq_true rfl)) dX4_readClause_32 ⟨Nat.le_of_ble_eq_true rfl, Nat.le_of_ble_eq_true rfl⟩) hD hS hA (fun x_79 σ1 μ1 H locs hw_80 hP hD hS => ?_)
        obtain ⟨hu_81, hp_84, hfn_85, hr_83⟩ := hw_80
        obtain ⟨hu_81a, hu_81b⟩ := Prod.mk.inj hu_81
        rw [hu_81a, hu_81b] at hP hD
        replace hF := hF.trans (bn_n hfn_85)
        refine lv_iconst (v := (-1)) hx hb dX4_readClause_35 (by decide +kernel) ?_
        refine lv_icmp_eq (tgt := 47) hx hb dX4_readClause_36 (by decide +kernel) (fun c_87 => ?_) (fun c_87 => ?_)
        · replace hF := hF.trans (if_pos c_87)
          have tc_92 : (x_79).toInt = (-1) := congrArg Int32.toInt c_87
          have h_93 : rg x_79 (-1) (-1) := rg_and hr_83 (rg_of_eq c_87 (rg_k (-1 : Int32) (-1) rfl)) (by decide +kernel)
          have uh_93 := h_93.1
          have vh_93 := h_93.2
          refine lv_aload_n hx hb dX4_readClause_47 rfl (lv_at hl 1 rfl) ?_
          refine pg_f (v := .ref this_draft) (C := RX4) (T := TX4) (N := 12) hx hb hts (tw_i inlX4) hown hK hP hL_this hK_this (by decide +kernel) rfl 3 (by decide +kernel) (hts _ (tw_c tw_160)) (pq_hv rfl hR_this_draft) dX4_readClause_48 ?_
          refine pg_f (v := .int (I 256 this_draft)) (C := RX8) (T := TX8) (N := 4) hx hb hts (tw_i inlX8) hown hK hP hL_this_draft hK_this_draft (by decide +kernel) rfl 0 (by decide +kernel) (hts _ (tw_c tw_745)) rfl dX4_readClause_51 ?_
          have h_94 : rg (I 256 this_draft) 0 20 := GX.rI hG 256 rfl
          have uh_94 := h_94.1
          have vh_94 := h_94.2
          replace hF := hF.trans (ap_n (vI_e (f := 256) hO_this_draft (by decide +kernel)))
          refine lv_bipush (v := 20) hx hb dX4_readClause_54 (by decide +kernel) ?_
          refine lv_icmp_lt (tgt := 67) hx hb dX4_readClause_56 (by decide +kernel) (fun c_96 => ?_) (fun c_96 => ?_)
          · replace hF := hF.trans (if_pos c_96)
            have tc_101 : (I 256 this_draft).toInt < 20 := Int32.lt_iff_toInt_lt.mp c_96
            have h_102 : rg (I 256 this_draft) 0 19 := rg_lt1 c_96 h_94 (rg_k (20 : Int32) 20 rfl) (by decide +kernel)
            have uh_102 := h_102.1
            have vh_102 := h_102.2
            refine lv_aload_n hx hb dX4_readClause_67 rfl (lv_at hl 1 rfl) ?_
            refine pg_f (v := .ref this_draft) (C := RX4) (T := TX4) (N := 12) hx hb hts (tw_i inlX4) hown hK hP hL_this hK_this (by decide +kernel) rfl 3 (by decide +kernel) (hts _ (tw_c tw_160)) (pq_hv rfl hR_this_draft) dX4_readClause_68 ?_
            obtain ⟨w_103, hR_w_103, hL_w_103, hK_w_103, hN_w_103, hT_w_103⟩ := sh_a hSH 257 (ci := 8) (kd := 13) (len := 20) rfl (by decide +kernel) hL_this_draft hK_this_draft
            have hO_w_103 : w_103 = vrow σ 257 this := vo_k (c := 8) hO_this_draft hR_w_103
            refine pg_f (v := .ref w_103) (C := RX8) (T := TX8) (N := 4) hx hb hts (tw_i inlX8) hown hK hP hL_this_draft hK_this_draft (by decide +kernel) rfl 1 (by decide +kernel) (hts _ (tw_c tw_746)) (pq_hv rfl hR_w_103) dX4_readClause_71 ?_
            refine lv_aload_n hx hb dX4_readClause_74 rfl (lv_at hl 1 rfl) ?_
            refine pg_f (v := .ref this_draft) (C := RX4) (T := TX4) (N := 12) hx hb hts (tw_i inlX4) hown hK hP hL_this hK_this (by decide +kernel) rfl 3 (by decide +kernel) (hts _ (tw_c tw_160)) (pq_hv rfl hR_this_draft) dX4_readClause_75 ?_
            refine pg_f (v := .int (I 256 this_draft)) (C := RX8) (T := TX8) (N := 4) hx hb hts (tw_i inlX8) hown hK hP hL_this_draft hK_this_draft (by decide +kernel) rfl 0 (by decide +kernel) (hts _ (tw_c tw_745)) rfl dX4_readClause_78 ?_
            refine lv_iload_n hx hb dX4_readClause_81 rfl (lv_at hl 0 rfl) ?_
            refine pt_i hx hb hK hP hD hS hL_w_103 hK_w_103 hN_w_103 (rg_in h_102 (by decide +kernel)) dX4_readClause_82 (fun r_104 H locs er_104 hP hD hS => ?_)
            replace hFr := fr_R hFr hO_w_103 (by decide +kernel) er_104
            replace hF := hF.trans (ap_n (vR_st hVT hO_w_103 (by decide +kernel) er_104))
            have hG := GX.wR hG hSH hT_w_103 rfl er_104 (rg_w h_78 (by decide +kernel)) (by decide +kernel)
            refine lv_aload_n hx hb dX4_readClause_83 rfl (lv_at hl 1 rfl) ?_
            refine pg_f (v := .ref this_draft) (C := RX4) (T := TX4) (N := 12) hx hb hts (tw_i inlX4) hown hK hP hL_this hK_this (by decide +kernel) rfl 3 (by decide +kernel) (hts _ (tw_c tw_160)) (pq_hv rfl hR_this_draft) dX4_readClause_84 ?_
            refine lv_dup hx hb dX4_readClause_87 rfl ?_
            refine pg_f (v := .int (I 256 this_draft)) (C := RX8) (T := TX8) (N := 4) hx hb hts (tw_i inlX8) hown hK hP hL_this_draft hK_this_draft (by decide +kernel) rfl 0 (by decide +kernel) (hts _ (tw_c tw_745)) rfl dX4_readClause_88 ?_
            refine lv_iconst (v := 1) hx hb dX4_readClause_91 (by decide +kernel) ?_
            refine lv_iadd hx hb dX4_readClause_92 ?_
            refine lv_topi (fun x_105 ex_105 => ?_)
            replace hF := hF.trans (ap_n ex_105)
            have h_106 : rg x_105 1 20 := rg_of_eq ex_105 (rg_add h_102 (rg_k (1 : Int32) 1 rfl) (by decide +kernel))
            have uh_106 := h_106.1
            have vh_106 := h_106.2
            have tx_105 : (x_105).toInt = (I 256 this_draft).toInt + 1 := by rw [ex_105]; exact i_add_rg (a2 := (I 256 this_draft).toInt) (b2 := 1) rfl rfl h_102 (rg_k (1 : Int32) 1 rfl) (by decide +kernel)
            refine pp_i (v := x_105) (ty := .int) (C := RX8) (T := TX8) (N := 4) hx hb hts (tw_i inlX8) tyX8 tyX8_ok nmX8 hown hK hP hD hS hL_this_draft hK_this_draft (by decide +kernel) rfl 0 256 (by decide +kernel) (hts _ (tw_c tw_745)) rfl (tyX8_ok 0 (by decide +kernel)) rfl rfl (Nat.le_of_ble_eq_true rfl) (ps_256 _ _ _ _ _) dX4_readClause_93 (fun I_107 H locs eI_107 hP hD hS => ?_)
            replace hFr := fr_I (f := 256) hFr hO_this_draft (by decide +kernel) eI_107
            replace hF := hF.trans (ap_n (vI_st (f := 256) hO_this_draft (by decide +kernel) eI_107))
            have hq9 : (r_104 this_draft_from (I 256 this_draft).toNatClampNeg).toInt ≤ 299 := by rw [show r_104 this_draft_from = ri this_draft_from from (ft_w (fun _ _ => rfl) er_104 hT_w_103 (by decide +kernel)) this_draft_from hT_this_draft_from]; omega
            have hG := GX.wC hG hR_this_draft_from eI_107 (rg_w h_106 (by decide +kernel)) (by omega) hq9 (by decide +kernel)
            have tt_108 : (I_107 132 this).toInt = (I 132 this).toInt := by rw [eI_107, pq_uf _ _ _ (by decide +kernel)]
            have tt_109 : (I_107 134 this).toInt = (I 134 this).toInt := by rw [eI_107, pq_uf _ _ _ (by decide +kernel)]
            have tt_110 : (I_107 129 this).toInt = (I 129 this).toInt := by rw [eI_107, pq_uf _ _ _ (by decide +kernel)]
            have tt_111 : (I_107 197 this_scanner).toInt = (I 197 this_scanner).toInt := by rw [eI_107, pq_uf _ _ _ (by decide +kernel)]
            have tt_112 : (I_107 194 this_scanner).toInt = (I 194 this_scanner).toInt := by rw [eI_107, pq_uf _ _ _ (by decide +kernel)]
            have tt_113 : (I_107 256 this_draft).toInt = (x_105).toInt := by rw [eI_107, pq_us]
            refine lv_iload_n hx hb dX4_readClause_96 rfl (lv_at hl 0 rfl) ?_
            refine lv_iconst (v := 4) hx hb dX4_readClause_97 (by decide +kernel) ?_
            refine lv_icmp_ge (tgt := 108) hx hb dX4_readClause_98 (by decide +kernel) (fun c_114 => ?_) (fun c_114 => ?_)
            · have tc_117 : 4 ≤ (I 194 this_scanner).toInt := Int32.le_iff_toInt_le.mp c_114
              refine lv_iload_n hx hb dX4_readClause_108 rfl (lv_at hl 0 rfl) ?_
              refine lv_iconst (v := 5) hx hb dX4_readClause_109 (by decide +kernel) ?_
              refine lv_icmp_gt (tgt := 120) hx hb dX4_readClause_110 (by decide +kernel) (fun c_118 => ?_) (fun c_118 => ?_)
              · replace hF := hF.trans (if_pos c_118)
                have tc_123 : 5 < (I 194 this_scanner).toInt := Int32.lt_iff_toInt_lt.mp c_118
                have h_124 : rg (I 194 this_scanner) 6 8 := rg_lt2 c_118 (rg_k (5 : Int32) 5 rfl) h_78 (by decide +kernel)
                have uh_124 := h_124.1
                have vh_124 := h_124.2
                refine lv_aload_n hx hb dX4_readClause_120 rfl (lv_at hl 1 rfl) ?_
                refine lv_iload_n hx hb dX4_readClause_121 rfl (lv_at hl 0 rfl) ?_
                refine pk_i (va_runS (As := [.int (I 194 this_scanner)]) (rest := [.ref this]) ⟨hx, hb, hml, hown, hts⟩ (s_X4_mostOf l D t σ I_107 J r_104 rj rq H.size tg hSH hG.1 (I 194 this_scanner)) (va_cwS 1 hts (tw_S tw_809 tw_810 tw_25 tw_811) rfl rfl rfl cd_yX4_mostOf_1 ⟨Nat.le_of_ble_eq_true rfl, Nat.le_of_ble_eq_true rfl⟩) ⟨pq_blind, pq_pre hK hN hP hD⟩ rfl rfl hl.1 rfl (lv_room (Nat.le_of_ble_eq_true rfl)) dX4_readClause_122 ⟨Nat.le_of_ble_eq_true rfl, Nat.le_of_ble_eq_true rfl⟩) hD hS hA (fun x_125 σ1 μ1 H locs hw_126 hP hD hS => ?_)
                obtain ⟨hu_127, hfn_130, hr_129⟩ := hw_126
                obtain ⟨hu_127a, hu_127b⟩ := Prod.mk.inj hu_127
                rw [hu_127a, hu_127b] at hP hD
                replace hF := hF.trans (ap_n hfn_130.symm)
                refine pk_v (va_runV (As := [.int x_125]) (rest := []) ⟨hx, hb, hml, hown, hts⟩ (s_X4_readNumber l D t σ I_107 J r_104 rj rq H.size aK aV vF tg hSH hG.1 this x_125 hL_this hK_this this_scanner hR_this_scanner hL_this_scanner hK_this_scanner (by omega)) (cwV 1 hts (tw_V tw_812 tw_813 tw_814 tw_25 tw_815) rfl rfl rfl cv_yX4_readNumber_1 ⟨Nat.le_of_ble_eq_true rfl, Nat.le_of_ble_eq_true rfl⟩) ⟨pq_blindS, pq_recv hK hP hL_this hK_this (by decide +kernel) rfl, pq_preS hK hN hP hD hS hA hW0⟩ rfl rfl hl.1 rfl (lv_room (Nat.le_of_ble_eq_true rfl)) dX4_readClause_125 ⟨Nat.le_of_ble_eq_true rfl, Nat.le_of_ble_eq_true rfl⟩) hD hS hA (fun σ1 μ1 H locs hw_133 hP hD hS => ?_)
                obtain ⟨I_134, ri_135, hu_136, hg_137, hp_139, hp_140, hfn_141, hfr_142⟩ := hw_133
                obtain ⟨hu_136a, hu_136b⟩ := Prod.mk.inj hu_136
                rw [hu_136a, hu_136b] at hP hD
                replace hF := hF.trans (bv_n hfn_141)
                replace hFr := fr_tr hFr hfr_142
                have tt_143 := hp_139
                have tt_144 := hp_140
                have hG := GX.tr hG hg_137 (by decide +kernel)
                have tt_145 : (I_134 134 this).toInt = (I_107 134 this).toInt := by rw [hg_137.2.1 134 (by decide +kernel) (by decide +kernel)]
                have tt_146 : (I_134 256 this_draft).toInt = (I_107 256 this_draft).toInt := by rw [hg_137.2.1 256 (by decide +kernel) (by decide +kernel)]
                refine lv_aload_n hx hb dX4_readClause_128 rfl (lv_at hl 1 rfl) ?_
                refine pg_f (v := .ref this_draft) (C := RX4) (T := TX4) (N := 12) hx hb hts (tw_i inlX4) hown hK hP hL_this hK_this (by decide +kernel) rfl 3 (by decide +kernel) (hts _ (tw_c tw_160)) (pq_hv rfl hR_this_draft) dX4_readClause_129 ?_
                refine pg_f (v := .ref this_draft_from) (C := RX8) (T := TX8) (N := 4) hx hb hts (tw_i inlX8) hown hK hP hL_this_draft hK_this_draft (by decide +kernel) rfl 2 (by decide +kernel) (hts _ (tw_c tw_747)) (pq_hv rfl hR_this_draft_from) dX4_readClause_132 ?_
                refine lv_aload_n hx hb dX4_readClause_135 rfl (lv_at hl 1 rfl) ?_
                refine pg_f (v := .ref this_draft) (C := RX4) (T := TX4) (N := 12) hx hb hts (tw_i inlX4) hown hK hP hL_this hK_this (by decide +kernel) rfl 3 (by decide +kernel) (hts _ (tw_c tw_160)) (pq_hv rfl hR_this_draft) dX4_readClause_136 ?_
                refine pg_f (v := .int (I_134 256 this_draft)) (C := RX8) (T := TX8) (N := 4) hx hb hts (tw_i inlX8) hown hK hP hL_this_draft hK_this_draft (by decide +kernel) rfl 0 (by decide +kernel) (hts _ (tw_c tw_745)) rfl dX4_readClause_139 ?_
                have h_147 : rg (I_134 256 this_draft) 1 20 := (by rw [hg_137.2.1 256 (by decide +kernel) (by decide +kernel)]; exact (by rw [eI_107, pq_us]; exact h_106))
                have uh_147 := h_147.1
                have vh_147 := h_147.2
                replace hF := hF.trans (ap_n (vI_e (f := 256) hO_this_draft (by decide +kernel)))
                refine lv_aload_n hx hb dX4_readClause_142 rfl (lv_at hl 1 rfl) ?_
                refine pg_f (v := .int (I_134 132 this)) (C := RX4) (T := TX4) (N := 12) hx hb hts (tw_i inlX4) hown hK hP hL_this hK_this (by decide +kernel) rfl 4 (by decide +kernel) (hts _ (tw_c tw_656)) rfl dX4_readClause_143 ?_
                have h_149 : rg (I_134 132 this) 0 300 := GX.rI hG 132 rfl
                have uh_149 := h_149.1
                have vh_149 := h_149.2
                replace hF := hF.trans (ap_n (vI_e (f := 132) hO_this (by decide +kernel)))
                refine pt_i hx hb hK hP hD hS hL_this_draft_from hK_this_draft_from hN_this_draft_from (rg_in h_147 (by decide +kernel)) dX4_readClause_146 (fun r_151 H locs er_151 hP hD hS => ?_)
                replace hFr := fr_R hFr hO_this_draft_from (by decide +kernel) er_151
                replace hF := hF.trans (ap_n (vR_st hVT hO_this_draft_from (by decide +kernel) er_151))
                have hG := GX.wF hG hfi hL_this_draft hK_this_draft hR_this_draft_from er_151 (rg_w h_149 (by decide +kernel)) (Int.le_refl _) hT_this_draft_from
                subst hQ
                exact W.vret hx hb hr (fun t1 ht hW => ⟨⟨(σ, I_134, J, r_151, rj, rq), rfl, ⟨I_134, r_151, rfl, hG, (by rw [er_151, va_up_self]; unfold upd; rw [if_pos rfl]), (by omega), (hF0.symm.trans hF), hFr⟩, by rw [ht]; exact hP, va_K.moved hW.alike hK, hD⟩, hS.F ht⟩) hS.2.2 dX4_readClause_147
              · replace hF := hF.trans (if_neg c_118)
                have tc_152 : (I 194 this_scanner).toInt ≤ 5 := Int32.le_iff_toInt_le.mp (nlt c_118)
                have h_153 : rg (I 194 this_scanner) 4 5 := rg_le1 (nlt c_118) h_78 (rg_k (5 : Int32) 5 rfl) (by decide +kernel)
                have uh_153 := h_153.1
                have vh_153 := h_153.2
                refine lv_aload_n hx hb dX4_readClause_113 rfl (lv_at hl 1 rfl) ?_
                refine pk_v (va_runV (As := []) (rest := []) ⟨hx, hb, hml, hown, hts⟩ (s_X4_readKeys l D t σ I_107 J r_104 rj rq H.size aK aV vF tg hSH hG.1 this hL_this hK_this this_scanner hR_this_scanner hL_this_scanner hK_this_scanner (by omega)) (cwV 0 hts (tw_V tw_797 tw_798 tw_799 tw_25 tw_800) rfl rfl rfl cv_yX4_readKeys_0 ⟨Nat.le_of_ble_eq_true rfl, Nat.le_of_ble_eq_true rfl⟩) ⟨pq_blindS, pq_recv hK hP hL_this hK_this (by decide +kernel) rfl, pq_preS hK hN hP hD hS hA hW0⟩ rfl rfl hl.1 rfl (lv_room (Nat.le_of_ble_eq_true rfl)) dX4_readClause_114 ⟨Nat.le_of_ble_eq_true rfl, Nat.le_of_ble_eq_true rfl⟩) hD hS hA (fun σ1 μ1 H locs hw_155 hP hD hS => ?_)
                obtain ⟨I_156, ri_157, hu_158, hg_159, hp_161, hp_162, hfn_163, hfr_164⟩ := hw_155
                obtain ⟨hu_158a, hu_158b⟩ := Prod.mk.inj hu_158
                rw [hu_158a, hu_158b] at hP hD
                replace hF := hF.trans (bv_n hfn_163)
                replace hFr := fr_tr hFr hfr_164
                have tt_165 := hp_161
                have tt_166 := hp_162
                have hG := GX.tr hG hg_159 (by decide +kernel)
                have tt_167 : (I_156 134 this).toInt = (I_107 134 this).toInt := by rw [hg_159.2.1 134 (by decide +kernel) (by decide +kernel)]
                have tt_168 : (I_156 256 this_draft).toInt = (I_107 256 this_draft).toInt := by rw [hg_159.2.1 256 (by decide +kernel) (by decide +kernel)]
                refine lv_goto (tgt := 128) hx hb dX4_readClause_117 (by decide +kernel) ?_
                refine lv_aload_n hx hb dX4_readClause_128 rfl (lv_at hl 1 rfl) ?_
                refine pg_f (v := .ref this_draft) (C := RX4) (T := TX4) (N := 12) hx hb hts (tw_i inlX4) hown hK hP hL_this hK_this (by decide +kernel) rfl 3 (by decide +kernel) (hts _ (tw_c tw_160)) (pq_hv rfl hR_this_draft) dX4_readClause_129 ?_
                refine pg_f (v := .ref this_draft_from) (C := RX8) (T := TX8) (N := 4) hx hb hts (tw_i inlX8) hown hK hP hL_this_draft hK_this_draft (by decide +kernel) rfl 2 (by decide +kernel) (hts _ (tw_c tw_747)) (pq_hv rfl hR_this_draft_from) dX4_readClause_132 ?_
                refine lv_aload_n hx hb dX4_readClause_135 rfl (lv_at hl 1 rfl) ?_
                refine pg_f (v := .ref this_draft) (C := RX4) (T := TX4) (N := 12) hx hb hts (tw_i inlX4) hown hK hP hL_this hK_this (by decide +kernel) rfl 3 (by decide +kernel) (hts _ (tw_c tw_160)) (pq_hv rfl hR_this_draft) dX4_readClause_136 ?_
                refine pg_f (v := .int (I_156 256 this_draft)) (C := RX8) (T := TX8) (N := 4) hx hb hts (tw_i inlX8) hown hK hP hL_this_draft hK_this_draft (by decide +kernel) rfl 0 (by decide +kernel) (hts _ (tw_c tw_745)) rfl dX4_readClause_139 ?_
                have h_169 : rg (I_156 256 this_draft) 1 20 := (by rw [hg_159.2.1 256 (by decide +kernel) (by decide +kernel)]; exact (by rw [eI_107, pq_us]; exact h_106))
                have uh_169 := h_169.1
                have vh_169 := h_169.2
                replace hF := hF.trans (ap_n (vI_e (f := 256) hO_this_draft (by decide +kernel)))
                refine lv_aload_n hx hb dX4_readClause_142 rfl (lv_at hl 1 rfl) ?_
                refine pg_f (v := .int (I_156 132 this)) (C := RX4) (T := TX4) (N := 12) hx hb hts (tw_i inlX4) hown hK hP hL_this hK_this (by decide +kernel) rfl 4 (by decide +kernel) (hts _ (tw_c tw_656)) rfl dX4_readClause_143 ?_
                have h_171 : rg (I_156 132 this) 0 300 := GX.rI hG 132 rfl
                have uh_171 := h_171.1
                have vh_171 := h_171.2
                replace hF := hF.trans (ap_n (vI_e (f := 132) hO_this (by decide +kernel)))
                refine pt_i hx hb hK hP hD hS hL_this_draft_from hK_this_draft_from hN_this_draft_from (rg_in h_169 (by decide +kernel)) dX4_readClause_146 (fun r_173 H locs er_173 hP hD hS => ?_)
                replace hFr := fr_R hFr hO_this_draft_from (by decide +kernel) er_173
                replace hF := hF.trans (ap_n (vR_st hVT hO_this_draft_from (by decide +kernel) er_173))
                have hG := GX.wF hG hfi hL_this_draft hK_this_draft hR_this_draft_from er_173 (rg_w h_171 (by decide +kernel)) (Int.le_refl _) hT_this_draft_from
                subst hQ
                exact W.vret hx hb hr (fun t1 ht hW => ⟨⟨(σ, I_156, J, r_173, rj, rq), rfl, ⟨I_156, r_173, rfl, hG, (by rw [er_173, va_up_self]; unfold upd; rw [if_pos rfl]), (by omega), (hF0.symm.trans hF), hFr⟩, by rw [ht]; exact hP, va_K.moved hW.alike hK, hD⟩, hS.F ht⟩) hS.2.2 dX4_readClause_147
            · have tc_174 : (I 194 this_scanner).toInt < 4 := Int32.lt_iff_toInt_lt.mp (nle c_114)
              exact (rg_empty (rg_lt1 (nle c_114) h_78 (rg_k (4 : Int32) 4 rfl) (lo := 4) (hi := 3) (by decide +kernel)) (by decide +kernel)).elim
          · replace hF := hF.trans (if_neg c_96)
            have tc_175 : 20 ≤ (I 256 this_draft).toInt := Int32.le_iff_toInt_le.mp (nlt c_96)
            have h_176 : rg (I 256 this_draft) 20 20 := rg_le2 (nlt c_96) (rg_k (20 : Int32) 20 rfl) h_94 (by decide +kernel)
            have uh_176 := h_176.1
            have vh_176 := h_176.2
            refine lv_aload_n hx hb dX4_readClause_59 rfl (lv_at hl 1 rfl) ?_
            refine lv_iconst (v := 5) hx hb dX4_readClause_60 (by decide +kernel) ?_
            refine pk_v (va_runV (As := [.int 5]) (rest := []) ⟨hx, hb, hml, hown, hts⟩ (s_X4_refuse l D t σ I J ri rj rq H.size tg hSH hG.1 this (5 : Int32) hL_this hK_this (rg_w (rg_k (5 : Int32) 5 rfl) (by decide +kernel))) (cwV 1 hts (tw_V tw_748 tw_749 tw_750 tw_25 tw_751) rfl rfl rfl cv_yX4_refuse_1 ⟨Nat.le_of_ble_eq_true rfl, Nat.le_of_ble_eq_true rfl⟩) ⟨pq_blind, pq_recv hK hP hL_this hK_this (by decide +kernel) rfl, pq_pre hK hN hP hD⟩ rfl rfl hl.1 rfl (lv_room (Nat.le_of_ble_eq_true rfl)) dX4_readClause_61 ⟨Nat.le_of_ble_eq_true rfl, Nat.le_of_ble_eq_true rfl⟩) hD hS hA (fun σ1 μ1 H locs hw_178 hP hD hS => ?_)
            obtain ⟨I_179, hu_180, hg_181, hp_183, hfn_184, hfr_185⟩ := hw_178
            obtain ⟨hu_180a, hu_180b⟩ := Prod.mk.inj hu_180
            rw [hu_180a, hu_180b] at hP hD
            replace hF := hF.trans (bv_n hfn_184)
            replace hFr := fr_tr hFr hfr_185
            have tt_186 := hp_183
            have hG := GX.tr hG hg_181 (by decide +kernel)
            have tt_187 : (I_179 132 this).toInt = (I 132 this).toInt := by rw [hg_181.2.1 132 (by decide +kernel) (by decide +kernel)]
            have tt_188 : (I_179 134 this).toInt = (I 134 this).toInt := by rw [hg_181.2.1 134 (by decide +kernel) (by decide +kernel)]
            have tt_189 : (I_179 197 this_scanner).toInt = (I 197 this_scanner).toInt := by rw [hg_181.2.1 197 (by decide +kernel) (by decide +kernel)]
            have tt_190 : (I_179 194 this_scanner).toInt = (I 194 this_scanner).toInt := by rw [hg_181.2.1 194 (by decide +kernel) (by decide +kernel)]
            have tt_191 : (I_179 256 this_draft).toInt = (I 256 this_draft).toInt := by rw [hg_181.2.1 256 (by decide +kernel) (by decide +kernel)]
            refine lv_goto (tgt := 147) hx hb dX4_readClause_64 (by decide +kernel) ?_
            subst hQ
            exact W.vret hx hb hr (fun t1 ht hW => ⟨⟨(σ, I_179, J, ri, rj, rq), rfl, ⟨I_179, ri, rfl, hG, (by rw [show I_179 256 this_draft = I 256 this_draft from ((congrFun (hg_181.2.1 256 (by decide +kernel) (by decide +kernel)) this_draft).trans rfl)]; omega), (by omega), (hF0.symm.trans hF), hFr⟩, by rw [ht]; exact hP, va_K.moved hW.alike hK, hD⟩, hS.F ht⟩) hS.2.2 dX4_readClause_147
        · replace hF := hF.trans (if_neg c_87)
          have tc_192 : (x_79).toInt ≠ (-1) := fun q => c_87 (Int32.toInt_inj.mp q)
          have h_193 : rg x_79 0 19 := rg_ne c_87 hr_83 (-1) rfl (by decide +kernel)
          have uh_193 := h_193.1
          have vh_193 := h_193.2
          refine lv_aload_n hx hb dX4_readClause_39 rfl (lv_at hl 1 rfl) ?_
          refine lv_iconst (v := 4) hx hb dX4_readClause_40 (by decide +kernel) ?_
          refine pk_v (va_runV (As := [.int 4]) (rest := []) ⟨hx, hb, hml, hown, hts⟩ (s_X4_refuse l D t σ I J ri rj rq H.size tg hSH hG.1 this (4 : Int32) hL_this hK_this (rg_w (rg_k (4 : Int32) 4 rfl) (by decide +kernel))) (cwV 1 hts (tw_V tw_748 tw_749 tw_750 tw_25 tw_751) rfl rfl rfl cv_yX4_refuse_1 ⟨Nat.le_of_ble_eq_true rfl, Nat.le_of_ble_eq_true rfl⟩) ⟨pq_blind, pq_recv hK hP hL_this hK_this (by decide +kernel) rfl, pq_pre hK hN hP hD⟩ rfl rfl hl.1 rfl (lv_room (Nat.le_of_ble_eq_true rfl)) dX4_readClause_41 ⟨Nat.le_of_ble_eq_true rfl, Nat.le_of_ble_eq_true rfl⟩) hD hS hA (fun σ1 μ1 H locs hw_195 hP hD hS => ?_)
          obtain ⟨I_196, hu_197, hg_198, hp_200, hfn_201, hfr_202⟩ := hw_195
          obtain ⟨hu_197a, hu_197b⟩ := Prod.mk.inj hu_197
          rw [hu_197a, hu_197b] at hP hD
          replace hF := hF.trans (bv_n hfn_201)
          replace hFr := fr_tr hFr hfr_202
          have tt_203 := hp_200
          have hG := GX.tr hG hg_198 (by decide +kernel)
          have tt_204 : (I_196 132 this).toInt = (I 132 this).toInt := by rw [hg_198.2.1 132 (by decide +kernel) (by decide +kernel)]
          have tt_205 : (I_196 134 this).toInt = (I 134 this).toInt := by rw [hg_198.2.1 134 (by decide +kernel) (by decide +kernel)]
          have tt_206 : (I_196 197 this_scanner).toInt = (I 197 this_scanner).toInt := by rw [hg_198.2.1 197 (by decide +kernel) (by decide +kernel)]
          have tt_207 : (I_196 194 this_scanner).toInt = (I 194 this_scanner).toInt := by rw [hg_198.2.1 194 (by decide +kernel) (by decide +kernel)]
          have tt_208 : (I_196 256 this_draft).toInt = (I 256 this_draft).toInt := by rw [hg_198.2.1 256 (by decide +kernel) (by decide +kernel)]
          refine lv_goto (tgt := 147) hx hb dX4_readClause_44 (by decide +kernel) ?_
          subst hQ
          exact W.vret hx hb hr (fun t1 ht hW => ⟨⟨(σ, I_196, J, ri, rj, rq), rfl, ⟨I_196, ri, rfl, hG, (by rw [show I_196 256 this_draft = I 256 this_draft from ((congrFun (hg_198.2.1 256 (by decide +kernel) (by decide +kernel)) this_draft).trans rfl)]; omega), (by omega), (hF0.symm.trans hF), hFr⟩, by rw [ht]; exact hP, va_K.moved hW.alike hK, hD⟩, hS.F ht⟩) hS.2.2 dX4_readClause_147
    · replace hF := hF.trans (if_neg c_2)
      have tc_209 : 8 < (I 194 this_scanner).toInt := Int32.lt_iff_toInt_lt.mp (nle c_2)
      have h_210 : rg (I 194 this_scanner) 9 2147483647 := rg_lt2 (nle c_2) (rg_k (8 : Int32) 8 rfl) (rg_full _) (by decide +kernel)
      have uh_210 := h_210.1
      have vh_210 := h_210.2
      refine lv_aload_n hx hb dX4_readClause_14 rfl (lv_at hl 1 rfl) ?_
      refine lv_iconst (v := 1) hx hb dX4_readClause_15 (by decide +kernel) ?_
      refine pk_v (va_runV (As := [.int 1]) (rest := []) ⟨hx, hb, hml, hown, hts⟩ (s_X4_refuse l D t σ I J ri rj rq H.size tg hSH hG.1 this (1 : Int32) hL_this hK_this (rg_w (rg_k (1 : Int32) 1 rfl) (by decide +kernel))) (cwV 1 hts (tw_V tw_748 tw_749 tw_750 tw_25 tw_751) rfl rfl rfl cv_yX4_refuse_1 ⟨Nat.le_of_ble_eq_true rfl, Nat.le_of_ble_eq_true rfl⟩) ⟨pq_blind, pq_recv hK hP hL_this hK_this (by decide +kernel) rfl, pq_pre hK hN hP hD⟩ rfl rfl hl.1 rfl (lv_room (Nat.le_of_ble_eq_true rfl)) dX4_readClause_16 ⟨Nat.le_of_ble_eq_true rfl, Nat.le_of_ble_eq_true rfl⟩) hD hS hA (fun σ1 μ1 H locs hw_212 hP hD hS => ?_)
      obtain ⟨I_213, hu_214, hg_215, hp_217, hfn_218, hfr_219⟩ := hw_212
      obtain ⟨hu_214a, hu_214b⟩ := Prod.mk.inj hu_214
      rw [hu_214a, hu_214b] at hP hD
      replace hF := hF.trans (bv_n hfn_218)
      replace hFr := fr_tr hFr hfr_219
      have tt_220 := hp_217
      have hG := GX.tr hG hg_215 (by decide +kernel)
      have tt_221 : (I_213 132 this).toInt = (I 132 this).toInt := by rw [hg_215.2.1 132 (by decide +kernel) (by decide +kernel)]
      have tt_222 : (I_213 134 this).toInt = (I 134 this).toInt := by rw [hg_215.2.1 134 (by decide +kernel) (by decide +kernel)]
      have tt_223 : (I_213 197 this_scanner).toInt = (I 197 this_scanner).toInt := by rw [hg_215.2.1 197 (by decide +kernel) (by decide +kernel)]
      have tt_224 : (I_213 194 this_scanner).toInt = (I 194 this_scanner).toInt := by rw [hg_215.2.1 194 (by decide +kernel) (by decide +kernel)]
      have tt_225 : (I_213 256 this_draft).toInt = (I 256 this_draft).toInt := by rw [hg_215.2.1 256 (by decide +kernel) (by decide +kernel)]
      refine lv_goto (tgt := 147) hx hb dX4_readClause_19 (by decide +kernel) ?_
      subst hQ
      exact W.vret hx hb hr (fun t1 ht hW => ⟨⟨(σ, I_213, J, ri, rj, rq), rfl, ⟨I_213, ri, rfl, hG, (by rw [show I_213 256 this_draft = I 256 this_draft from ((congrFun (hg_215.2.1 256 (by decide +kernel) (by decide +kernel)) this_draft).trans rfl)]; omega), (by omega), (hF0.symm.trans hF), hFr⟩, by rw [ht]; exact hP, va_K.moved hW.alike hK, hD⟩, hS.F ht⟩) hS.2.2 dX4_readClause_147
  exact go _ _ _ hP hD hS hl
