theorem dX6_takeLonger_0 : decode cX6_takeLonger 0 = .ok (.aload_n 0, 1) := oc_42 (by decide +kernel)
theorem dX6_takeLonger_1 : decode cX6_takeLonger 1 = .ok (.getfield 19, 3) := oc_180 (a := 0) (b := 19) (by decide +kernel)
theorem dX6_takeLonger_4 : decode cX6_takeLonger 4 = .ok (.aload_n 0, 1) := oc_42 (by decide +kernel)
theorem dX6_takeLonger_5 : decode cX6_takeLonger 5 = .ok (.getfield 15, 3) := oc_180 (a := 0) (b := 15) (by decide +kernel)
theorem dX6_takeLonger_30 : decode cX6_takeLonger 30 = .ok (.istore_n 1, 1) := oc_60 (by decide +kernel)
theorem dX6_takeLonger_31 : decode cX6_takeLonger 31 = .ok (.iload_n 1, 1) := oc_27 (by decide +kernel)
theorem dX6_takeLonger_32 : decode cX6_takeLonger 32 = .ok (.ifCond .eq 51, 3) := oc_153 (a := 0) (b := 51) (by decide +kernel)
theorem dX6_takeLonger_35 : decode cX6_takeLonger 35 = .ok (.aload_n 0, 1) := oc_42 (by decide +kernel)
theorem tw_668 : Cond.fieldLink RX6 25 "RingsUnder$Scanner" "token" "I" ∈ wsL_law := sg_28 _ (List.mem_of_getElem? (i := 20) rfl)
theorem dX6_takeLonger_36 : decode cX6_takeLonger 36 = .ok (.getfield 25, 3) := oc_180 (a := 0) (b := 25) (by decide +kernel)
theorem dX6_takeLonger_39 : decode cX6_takeLonger 39 = .ok (.bipush 19, 2) := oc_16 (a := 19) (by decide +kernel)
theorem dX6_takeLonger_53 : decode cX6_takeLonger 53 = .ok (.aload_n 0, 1) := oc_42 (by decide +kernel)
theorem dX6_takeLonger_54 : decode cX6_takeLonger 54 = .ok (.aload_n 0, 1) := oc_42 (by decide +kernel)
theorem dX6_takeLonger_55 : decode cX6_takeLonger 55 = .ok (.getfield 25, 3) := oc_180 (a := 0) (b := 25) (by decide +kernel)
theorem dX6_takeLonger_58 : decode cX6_takeLonger 58 = .ok (.bipush 19, 2) := oc_16 (a := 19) (by decide +kernel)
theorem dX6_takeLonger_70 : decode cX6_takeLonger 70 = .ok (.putfield 25, 3) := oc_181 (a := 0) (b := 25) (by decide +kernel)
theorem dX6_takeLonger_73 : decode cX6_takeLonger 73 = .ok (.aload_n 0, 1) := oc_42 (by decide +kernel)
theorem dX6_takeLonger_74 : decode cX6_takeLonger 74 = .ok (.dup, 1) := oc_89 (by decide +kernel)
theorem dX6_takeLonger_75 : decode cX6_takeLonger 75 = .ok (.getfield 19, 3) := oc_180 (a := 0) (b := 19) (by decide +kernel)
theorem dX6_takeLonger_78 : decode cX6_takeLonger 78 = .ok (.iconst 1, 1) := oc_4 (by decide +kernel)
theorem dX6_takeLonger_79 : decode cX6_takeLonger 79 = .ok (.iadd, 1) := oc_96 (by decide +kernel)
theorem dX6_takeLonger_80 : decode cX6_takeLonger 80 = .ok (.putfield 19, 3) := oc_181 (a := 0) (b := 19) (by decide +kernel)
theorem dX6_takeLonger_83 : decode cX6_takeLonger 83 = .ok (.return_, 1) := oc_177 (by decide +kernel)
theorem dX6_takeLonger_60 : decode cX6_takeLonger 60 = .ok (.if_icmp .ne 8, 3) := oc_160 (a := 0) (b := 8) (by decide +kernel)
theorem dX6_takeLonger_68 : decode cX6_takeLonger 68 = .ok (.bipush 22, 2) := oc_16 (a := 22) (by decide +kernel)
theorem dX6_takeLonger_63 : decode cX6_takeLonger 63 = .ok (.bipush 20, 2) := oc_16 (a := 20) (by decide +kernel)
theorem dX6_takeLonger_65 : decode cX6_takeLonger 65 = .ok (.goto 5, 3) := oc_167 (a := 0) (b := 5) (by decide +kernel)
theorem dX6_takeLonger_41 : decode cX6_takeLonger 41 = .ok (.if_icmp .eq 12, 3) := oc_159 (a := 0) (b := 12) (by decide +kernel)
theorem dX6_takeLonger_44 : decode cX6_takeLonger 44 = .ok (.aload_n 0, 1) := oc_42 (by decide +kernel)
theorem dX6_takeLonger_45 : decode cX6_takeLonger 45 = .ok (.getfield 25, 3) := oc_180 (a := 0) (b := 25) (by decide +kernel)
theorem dX6_takeLonger_48 : decode cX6_takeLonger 48 = .ok (.bipush 21, 2) := oc_16 (a := 21) (by decide +kernel)
theorem dX6_takeLonger_50 : decode cX6_takeLonger 50 = .ok (.if_icmp .ne 33, 3) := oc_160 (a := 0) (b := 33) (by decide +kernel)
theorem dX6_takeLonger_29 : decode cX6_takeLonger 29 = .ok (.iconst 0, 1) := oc_3 (by decide +kernel)
theorem dX6_takeLonger_8 : decode cX6_takeLonger 8 = .ok (.if_icmp .ge 21, 3) := oc_162 (a := 0) (b := 21) (by decide +kernel)
theorem dX6_takeLonger_11 : decode cX6_takeLonger 11 = .ok (.aload_n 0, 1) := oc_42 (by decide +kernel)
theorem dX6_takeLonger_12 : decode cX6_takeLonger 12 = .ok (.getfield 9, 3) := oc_180 (a := 0) (b := 9) (by decide +kernel)
theorem dX6_takeLonger_15 : decode cX6_takeLonger 15 = .ok (.aload_n 0, 1) := oc_42 (by decide +kernel)
theorem dX6_takeLonger_16 : decode cX6_takeLonger 16 = .ok (.getfield 19, 3) := oc_180 (a := 0) (b := 19) (by decide +kernel)
theorem dX6_takeLonger_19 : decode cX6_takeLonger 19 = .ok (.iaload, 1) := oc_46 (by decide +kernel)
theorem dX6_takeLonger_20 : decode cX6_takeLonger 20 = .ok (.bipush 61, 2) := oc_16 (a := 61) (by decide +kernel)
theorem dX6_takeLonger_22 : decode cX6_takeLonger 22 = .ok (.if_icmp .ne 7, 3) := oc_160 (a := 0) (b := 7) (by decide +kernel)
theorem dX6_takeLonger_25 : decode cX6_takeLonger 25 = .ok (.iconst 1, 1) := oc_4 (by decide +kernel)
theorem dX6_takeLonger_26 : decode cX6_takeLonger 26 = .ok (.goto 4, 3) := oc_167 (a := 0) (b := 4) (by decide +kernel)
theorem dX6_takeNumber_0 : decode cX6_takeNumber 0 = .ok (.aload_n 0, 1) := oc_42 (by decide +kernel)
theorem dX6_takeNumber_1 : decode cX6_takeNumber 1 = .ok (.bipush 18, 2) := oc_16 (a := 18) (by decide +kernel)
theorem dX6_takeNumber_3 : decode cX6_takeNumber 3 = .ok (.putfield 25, 3) := oc_181 (a := 0) (b := 25) (by decide +kernel)
theorem dX6_takeNumber_6 : decode cX6_takeNumber 6 = .ok (.aload_n 0, 1) := oc_42 (by decide +kernel)
theorem dX6_takeNumber_7 : decode cX6_takeNumber 7 = .ok (.iconst 0, 1) := oc_3 (by decide +kernel)
theorem tw_676 : Cond.fieldLink RX6 48 "RingsUnder$Scanner" "value" "I" ∈ wsL_law := sg_29 _ (List.mem_of_getElem? (i := 4) rfl)
theorem dX6_takeNumber_8 : decode cX6_takeNumber 8 = .ok (.putfield 48, 3) := oc_181 (a := 0) (b := 48) (by decide +kernel)
theorem dX6_takeNumber_11 : decode cX6_takeNumber 11 = .ok (.aload_n 0, 1) := oc_42 (by decide +kernel)
theorem dX6_takeNumber_12 : decode cX6_takeNumber 12 = .ok (.getfield 19, 3) := oc_180 (a := 0) (b := 19) (by decide +kernel)
theorem dX6_takeNumber_15 : decode cX6_takeNumber 15 = .ok (.aload_n 0, 1) := oc_42 (by decide +kernel)
theorem dX6_takeNumber_16 : decode cX6_takeNumber 16 = .ok (.getfield 15, 3) := oc_180 (a := 0) (b := 15) (by decide +kernel)
theorem dX6_takeNumber_19 : decode cX6_takeNumber 19 = .ok (.if_icmp .ge 61, 3) := oc_162 (a := 0) (b := 61) (by decide +kernel)
theorem dX6_takeNumber_80 : decode cX6_takeNumber 80 = .ok (.return_, 1) := oc_177 (by decide +kernel)
theorem dX6_takeNumber_22 : decode cX6_takeNumber 22 = .ok (.aload_n 0, 1) := oc_42 (by decide +kernel)
theorem dX6_takeNumber_23 : decode cX6_takeNumber 23 = .ok (.getfield 9, 3) := oc_180 (a := 0) (b := 9) (by decide +kernel)
theorem dX6_takeNumber_26 : decode cX6_takeNumber 26 = .ok (.aload_n 0, 1) := oc_42 (by decide +kernel)
theorem dX6_takeNumber_27 : decode cX6_takeNumber 27 = .ok (.getfield 19, 3) := oc_180 (a := 0) (b := 19) (by decide +kernel)
theorem dX6_takeNumber_30 : decode cX6_takeNumber 30 = .ok (.iaload, 1) := oc_46 (by decide +kernel)
theorem tw_669 : Cond.methodLink RX6 28 yX6_isDigit ∈ wsL_law := sg_28 _ (List.mem_of_getElem? (i := 21) rfl)
theorem tw_670 : Cond.static yX6_isDigit ∈ wsL_law := sg_28 _ (List.mem_of_getElem? (i := 22) rfl)
theorem tw_153 : Cond.initialized RX6 ∈ wsL_law := sg_7 _ (List.mem_of_getElem? (i := 9) rfl)
theorem tw_671 : Cond.code yX6_isDigit cX6_isDigit 1 (some .boolean) ∈ wsL_law := sg_28 _ (List.mem_of_getElem? (i := 23) rfl)
theorem dX6_takeNumber_31 : decode cX6_takeNumber 31 = .ok (.invokestatic 28, 3) := oc_184 (a := 0) (b := 28) (by decide +kernel)
theorem dX6_takeNumber_34 : decode cX6_takeNumber 34 = .ok (.ifCond .eq 46, 3) := oc_153 (a := 0) (b := 46) (by decide +kernel)
theorem dX6_takeNumber_37 : decode cX6_takeNumber 37 = .ok (.aload_n 0, 1) := oc_42 (by decide +kernel)
theorem dX6_takeNumber_38 : decode cX6_takeNumber 38 = .ok (.sipush 10000, 3) := oc_17 (a := 39) (b := 16) (by decide +kernel)
theorem dX6_takeNumber_41 : decode cX6_takeNumber 41 = .ok (.aload_n 0, 1) := oc_42 (by decide +kernel)
theorem dX6_takeNumber_42 : decode cX6_takeNumber 42 = .ok (.getfield 48, 3) := oc_180 (a := 0) (b := 48) (by decide +kernel)
theorem dX6_takeNumber_45 : decode cX6_takeNumber 45 = .ok (.bipush 10, 2) := oc_16 (a := 10) (by decide +kernel)
theorem dX6_takeNumber_47 : decode cX6_takeNumber 47 = .ok (.imul, 1) := oc_104 (by decide +kernel)
theorem dX6_takeNumber_48 : decode cX6_takeNumber 48 = .ok (.aload_n 0, 1) := oc_42 (by decide +kernel)
theorem dX6_takeNumber_49 : decode cX6_takeNumber 49 = .ok (.getfield 9, 3) := oc_180 (a := 0) (b := 9) (by decide +kernel)
theorem dX6_takeNumber_52 : decode cX6_takeNumber 52 = .ok (.aload_n 0, 1) := oc_42 (by decide +kernel)
theorem dX6_takeNumber_53 : decode cX6_takeNumber 53 = .ok (.getfield 19, 3) := oc_180 (a := 0) (b := 19) (by decide +kernel)
theorem dX6_takeNumber_56 : decode cX6_takeNumber 56 = .ok (.iaload, 1) := oc_46 (by decide +kernel)
theorem dX6_takeNumber_57 : decode cX6_takeNumber 57 = .ok (.iadd, 1) := oc_96 (by decide +kernel)
theorem dX6_takeNumber_58 : decode cX6_takeNumber 58 = .ok (.bipush 48, 2) := oc_16 (a := 48) (by decide +kernel)
theorem dX6_takeNumber_60 : decode cX6_takeNumber 60 = .ok (.isub, 1) := oc_100 (by decide +kernel)
theorem tw_677 : Cond.methodLink RX6 51 Lib.Math.min.name ∈ wsL_law := sg_29 _ (List.mem_of_getElem? (i := 5) rfl)
theorem dX6_takeNumber_61 : decode cX6_takeNumber 61 = .ok (.invokestatic 51, 3) := oc_184 (a := 0) (b := 51) (by decide +kernel)
theorem dX6_takeNumber_64 : decode cX6_takeNumber 64 = .ok (.putfield 48, 3) := oc_181 (a := 0) (b := 48) (by decide +kernel)
theorem dX6_takeNumber_67 : decode cX6_takeNumber 67 = .ok (.aload_n 0, 1) := oc_42 (by decide +kernel)
theorem dX6_takeNumber_68 : decode cX6_takeNumber 68 = .ok (.dup, 1) := oc_89 (by decide +kernel)
theorem dX6_takeNumber_69 : decode cX6_takeNumber 69 = .ok (.getfield 19, 3) := oc_180 (a := 0) (b := 19) (by decide +kernel)
theorem dX6_takeNumber_72 : decode cX6_takeNumber 72 = .ok (.iconst 1, 1) := oc_4 (by decide +kernel)
theorem dX6_takeNumber_73 : decode cX6_takeNumber 73 = .ok (.iadd, 1) := oc_96 (by decide +kernel)
theorem dX6_takeNumber_74 : decode cX6_takeNumber 74 = .ok (.putfield 19, 3) := oc_181 (a := 0) (b := 19) (by decide +kernel)
theorem dX6_takeNumber_77 : decode cX6_takeNumber 77 = .ok (.goto (-66), 3) := oc_167 (a := 255) (b := 190) (by decide +kernel)
theorem dX7_copyFrom_0 : decode cX7_copyFrom 0 = .ok (.aload_n 0, 1) := oc_42 (by decide +kernel)
theorem dX7_copyFrom_1 : decode cX7_copyFrom 1 = .ok (.aload_n 1, 1) := oc_43 (by decide +kernel)
theorem dX7_copyFrom_2 : decode cX7_copyFrom 2 = .ok (.getfield 59, 3) := oc_180 (a := 0) (b := 59) (by decide +kernel)
theorem dX7_copyFrom_5 : decode cX7_copyFrom 5 = .ok (.putfield 59, 3) := oc_181 (a := 0) (b := 59) (by decide +kernel)
theorem dX7_copyFrom_8 : decode cX7_copyFrom 8 = .ok (.aload_n 1, 1) := oc_43 (by decide +kernel)
theorem dX7_copyFrom_9 : decode cX7_copyFrom 9 = .ok (.getfield 9, 3) := oc_180 (a := 0) (b := 9) (by decide +kernel)
theorem dX7_copyFrom_12 : decode cX7_copyFrom 12 = .ok (.aload_n 0, 1) := oc_42 (by decide +kernel)
theorem dX7_copyFrom_13 : decode cX7_copyFrom 13 = .ok (.getfield 9, 3) := oc_180 (a := 0) (b := 9) (by decide +kernel)
theorem dX7_copyFrom_16 : decode cX7_copyFrom 16 = .ok (.invokestatic 62, 3) := oc_184 (a := 0) (b := 62) (by decide +kernel)
theorem dX7_copyFrom_19 : decode cX7_copyFrom 19 = .ok (.aload_n 1, 1) := oc_43 (by decide +kernel)
theorem dX7_copyFrom_20 : decode cX7_copyFrom 20 = .ok (.getfield 15, 3) := oc_180 (a := 0) (b := 15) (by decide +kernel)
theorem dX7_copyFrom_23 : decode cX7_copyFrom 23 = .ok (.aload_n 0, 1) := oc_42 (by decide +kernel)
theorem dX7_copyFrom_24 : decode cX7_copyFrom 24 = .ok (.getfield 15, 3) := oc_180 (a := 0) (b := 15) (by decide +kernel)
theorem dX7_copyFrom_27 : decode cX7_copyFrom 27 = .ok (.invokestatic 62, 3) := oc_184 (a := 0) (b := 62) (by decide +kernel)
theorem dX7_copyFrom_30 : decode cX7_copyFrom 30 = .ok (.aload_n 1, 1) := oc_43 (by decide +kernel)
theorem dX7_copyFrom_31 : decode cX7_copyFrom 31 = .ok (.getfield 18, 3) := oc_180 (a := 0) (b := 18) (by decide +kernel)
theorem dX7_copyFrom_34 : decode cX7_copyFrom 34 = .ok (.aload_n 0, 1) := oc_42 (by decide +kernel)
theorem dX7_copyFrom_35 : decode cX7_copyFrom 35 = .ok (.getfield 18, 3) := oc_180 (a := 0) (b := 18) (by decide +kernel)
theorem dX7_copyFrom_38 : decode cX7_copyFrom 38 = .ok (.invokestatic 62, 3) := oc_184 (a := 0) (b := 62) (by decide +kernel)
theorem dX7_copyFrom_41 : decode cX7_copyFrom 41 = .ok (.aload_n 1, 1) := oc_43 (by decide +kernel)
theorem dX7_copyFrom_42 : decode cX7_copyFrom 42 = .ok (.getfield 21, 3) := oc_180 (a := 0) (b := 21) (by decide +kernel)
theorem dX7_copyFrom_45 : decode cX7_copyFrom 45 = .ok (.aload_n 0, 1) := oc_42 (by decide +kernel)
theorem dX7_copyFrom_46 : decode cX7_copyFrom 46 = .ok (.getfield 21, 3) := oc_180 (a := 0) (b := 21) (by decide +kernel)
theorem dX7_copyFrom_49 : decode cX7_copyFrom 49 = .ok (.invokestatic 62, 3) := oc_184 (a := 0) (b := 62) (by decide +kernel)
theorem dX7_copyFrom_52 : decode cX7_copyFrom 52 = .ok (.aload_n 1, 1) := oc_43 (by decide +kernel)
theorem tw_65 : Cond.fieldLink RX7 24 "RingsUnder$Seas" "low" "[I" ∈ wsL_law := sg_3 _ (List.mem_of_getElem? (i := 17) rfl)
theorem dX7_copyFrom_53 : decode cX7_copyFrom 53 = .ok (.getfield 24, 3) := oc_180 (a := 0) (b := 24) (by decide +kernel)
theorem dX7_copyFrom_56 : decode cX7_copyFrom 56 = .ok (.aload_n 0, 1) := oc_42 (by decide +kernel)
theorem dX7_copyFrom_57 : decode cX7_copyFrom 57 = .ok (.getfield 24, 3) := oc_180 (a := 0) (b := 24) (by decide +kernel)
theorem dX7_copyFrom_60 : decode cX7_copyFrom 60 = .ok (.invokestatic 62, 3) := oc_184 (a := 0) (b := 62) (by decide +kernel)
theorem dX7_copyFrom_63 : decode cX7_copyFrom 63 = .ok (.aload_n 1, 1) := oc_43 (by decide +kernel)
theorem tw_66 : Cond.fieldLink RX7 27 "RingsUnder$Seas" "high" "[I" ∈ wsL_law := sg_3 _ (List.mem_of_getElem? (i := 18) rfl)
theorem dX7_copyFrom_64 : decode cX7_copyFrom 64 = .ok (.getfield 27, 3) := oc_180 (a := 0) (b := 27) (by decide +kernel)
theorem dX7_copyFrom_67 : decode cX7_copyFrom 67 = .ok (.aload_n 0, 1) := oc_42 (by decide +kernel)
theorem dX7_copyFrom_68 : decode cX7_copyFrom 68 = .ok (.getfield 27, 3) := oc_180 (a := 0) (b := 27) (by decide +kernel)
theorem dX7_copyFrom_71 : decode cX7_copyFrom 71 = .ok (.invokestatic 62, 3) := oc_184 (a := 0) (b := 62) (by decide +kernel)
theorem dX7_copyFrom_74 : decode cX7_copyFrom 74 = .ok (.aload_n 1, 1) := oc_43 (by decide +kernel)
theorem tw_67 : Cond.fieldLink RX7 30 "RingsUnder$Seas" "warm" "[I" ∈ wsL_law := sg_3 _ (List.mem_of_getElem? (i := 19) rfl)
theorem dX7_copyFrom_75 : decode cX7_copyFrom 75 = .ok (.getfield 30, 3) := oc_180 (a := 0) (b := 30) (by decide +kernel)
theorem dX7_copyFrom_78 : decode cX7_copyFrom 78 = .ok (.aload_n 0, 1) := oc_42 (by decide +kernel)
theorem dX7_copyFrom_79 : decode cX7_copyFrom 79 = .ok (.getfield 30, 3) := oc_180 (a := 0) (b := 30) (by decide +kernel)
theorem dX7_copyFrom_82 : decode cX7_copyFrom 82 = .ok (.invokestatic 62, 3) := oc_184 (a := 0) (b := 62) (by decide +kernel)
theorem dX7_copyFrom_85 : decode cX7_copyFrom 85 = .ok (.aload_n 1, 1) := oc_43 (by decide +kernel)
theorem tw_68 : Cond.fieldLink RX7 33 "RingsUnder$Seas" "drift" "[I" ∈ wsL_law := sg_3 _ (List.mem_of_getElem? (i := 20) rfl)
theorem dX7_copyFrom_86 : decode cX7_copyFrom 86 = .ok (.getfield 33, 3) := oc_180 (a := 0) (b := 33) (by decide +kernel)
theorem dX7_copyFrom_89 : decode cX7_copyFrom 89 = .ok (.aload_n 0, 1) := oc_42 (by decide +kernel)
theorem dX7_copyFrom_90 : decode cX7_copyFrom 90 = .ok (.getfield 33, 3) := oc_180 (a := 0) (b := 33) (by decide +kernel)
theorem dX7_copyFrom_93 : decode cX7_copyFrom 93 = .ok (.invokestatic 62, 3) := oc_184 (a := 0) (b := 62) (by decide +kernel)
theorem dX7_copyFrom_96 : decode cX7_copyFrom 96 = .ok (.aload_n 1, 1) := oc_43 (by decide +kernel)
theorem tw_69 : Cond.fieldLink RX7 36 "RingsUnder$Seas" "rain" "[I" ∈ wsL_law := sg_3 _ (List.mem_of_getElem? (i := 21) rfl)
theorem dX7_copyFrom_97 : decode cX7_copyFrom 97 = .ok (.getfield 36, 3) := oc_180 (a := 0) (b := 36) (by decide +kernel)
theorem dX7_copyFrom_100 : decode cX7_copyFrom 100 = .ok (.aload_n 0, 1) := oc_42 (by decide +kernel)
theorem dX7_copyFrom_101 : decode cX7_copyFrom 101 = .ok (.getfield 36, 3) := oc_180 (a := 0) (b := 36) (by decide +kernel)
theorem dX7_copyFrom_104 : decode cX7_copyFrom 104 = .ok (.invokestatic 62, 3) := oc_184 (a := 0) (b := 62) (by decide +kernel)
theorem dX7_copyFrom_107 : decode cX7_copyFrom 107 = .ok (.aload_n 0, 1) := oc_42 (by decide +kernel)
theorem dX7_copyFrom_108 : decode cX7_copyFrom 108 = .ok (.aload_n 1, 1) := oc_43 (by decide +kernel)
theorem tw_70 : Cond.fieldLink RX7 39 "RingsUnder$Seas" "bear" "I" ∈ wsL_law := sg_3 _ (List.mem_of_getElem? (i := 22) rfl)
theorem dX7_copyFrom_109 : decode cX7_copyFrom 109 = .ok (.getfield 39, 3) := oc_180 (a := 0) (b := 39) (by decide +kernel)
theorem dX7_copyFrom_112 : decode cX7_copyFrom 112 = .ok (.putfield 39, 3) := oc_181 (a := 0) (b := 39) (by decide +kernel)
theorem dX7_copyFrom_115 : decode cX7_copyFrom 115 = .ok (.aload_n 0, 1) := oc_42 (by decide +kernel)
theorem dX7_copyFrom_116 : decode cX7_copyFrom 116 = .ok (.aload_n 1, 1) := oc_43 (by decide +kernel)
theorem tw_71 : Cond.fieldLink RX7 43 "RingsUnder$Seas" "grow" "I" ∈ wsL_law := sg_3 _ (List.mem_of_getElem? (i := 23) rfl)
theorem dX7_copyFrom_117 : decode cX7_copyFrom 117 = .ok (.getfield 43, 3) := oc_180 (a := 0) (b := 43) (by decide +kernel)
theorem dX7_copyFrom_120 : decode cX7_copyFrom 120 = .ok (.putfield 43, 3) := oc_181 (a := 0) (b := 43) (by decide +kernel)
theorem dX7_copyFrom_123 : decode cX7_copyFrom 123 = .ok (.aload_n 0, 1) := oc_42 (by decide +kernel)
theorem dX7_copyFrom_124 : decode cX7_copyFrom 124 = .ok (.aload_n 1, 1) := oc_43 (by decide +kernel)
theorem tw_72 : Cond.fieldLink RX7 46 "RingsUnder$Seas" "die" "I" ∈ wsL_law := sg_4 _ (List.mem_of_getElem? (i := 0) rfl)
theorem dX7_copyFrom_125 : decode cX7_copyFrom 125 = .ok (.getfield 46, 3) := oc_180 (a := 0) (b := 46) (by decide +kernel)
theorem dX7_copyFrom_128 : decode cX7_copyFrom 128 = .ok (.putfield 46, 3) := oc_181 (a := 0) (b := 46) (by decide +kernel)
theorem dX7_copyFrom_131 : decode cX7_copyFrom 131 = .ok (.aload_n 0, 1) := oc_42 (by decide +kernel)
theorem dX7_copyFrom_132 : decode cX7_copyFrom 132 = .ok (.aload_n 1, 1) := oc_43 (by decide +kernel)
theorem tw_73 : Cond.fieldLink RX7 49 "RingsUnder$Seas" "reach" "I" ∈ wsL_law := sg_4 _ (List.mem_of_getElem? (i := 1) rfl)
theorem dX7_copyFrom_133 : decode cX7_copyFrom 133 = .ok (.getfield 49, 3) := oc_180 (a := 0) (b := 49) (by decide +kernel)
theorem dX7_copyFrom_136 : decode cX7_copyFrom 136 = .ok (.putfield 49, 3) := oc_181 (a := 0) (b := 49) (by decide +kernel)
theorem dX7_copyFrom_139 : decode cX7_copyFrom 139 = .ok (.aload_n 0, 1) := oc_42 (by decide +kernel)
theorem dX7_copyFrom_140 : decode cX7_copyFrom 140 = .ok (.aload_n 1, 1) := oc_43 (by decide +kernel)
theorem tw_74 : Cond.fieldLink RX7 52 "RingsUnder$Seas" "cost" "I" ∈ wsL_law := sg_4 _ (List.mem_of_getElem? (i := 2) rfl)
theorem dX7_copyFrom_141 : decode cX7_copyFrom 141 = .ok (.getfield 52, 3) := oc_180 (a := 0) (b := 52) (by decide +kernel)
theorem dX7_copyFrom_144 : decode cX7_copyFrom 144 = .ok (.putfield 52, 3) := oc_181 (a := 0) (b := 52) (by decide +kernel)
theorem dX7_copyFrom_147 : decode cX7_copyFrom 147 = .ok (.return_, 1) := oc_177 (by decide +kernel)
theorem dX7_tell_0 : decode cX7_tell 0 = .ok (.aload_n 0, 1) := oc_42 (by decide +kernel)
theorem dX7_tell_1 : decode cX7_tell 1 = .ok (.getfield 59, 3) := oc_180 (a := 0) (b := 59) (by decide +kernel)
theorem dX7_tell_4 : decode cX7_tell 4 = .ok (.sipush 200, 3) := oc_17 (a := 0) (b := 200) (by decide +kernel)
theorem dX7_tell_7 : decode cX7_tell 7 = .ok (.if_icmp .lt 5, 3) := oc_161 (a := 0) (b := 5) (by decide +kernel)
theorem dX7_tell_12 : decode cX7_tell 12 = .ok (.aload_n 0, 1) := oc_42 (by decide +kernel)
theorem dX7_tell_13 : decode cX7_tell 13 = .ok (.getfield 9, 3) := oc_180 (a := 0) (b := 9) (by decide +kernel)
theorem dX7_tell_16 : decode cX7_tell 16 = .ok (.aload_n 0, 1) := oc_42 (by decide +kernel)
theorem dX7_tell_17 : decode cX7_tell 17 = .ok (.getfield 59, 3) := oc_180 (a := 0) (b := 59) (by decide +kernel)
theorem dX7_tell_20 : decode cX7_tell 20 = .ok (.iload_n 1, 1) := oc_27 (by decide +kernel)
theorem dX7_tell_21 : decode cX7_tell 21 = .ok (.iastore, 1) := oc_79 (by decide +kernel)
theorem dX7_tell_22 : decode cX7_tell 22 = .ok (.aload_n 0, 1) := oc_42 (by decide +kernel)
theorem dX7_tell_23 : decode cX7_tell 23 = .ok (.getfield 15, 3) := oc_180 (a := 0) (b := 15) (by decide +kernel)
theorem dX7_tell_26 : decode cX7_tell 26 = .ok (.aload_n 0, 1) := oc_42 (by decide +kernel)
theorem dX7_tell_27 : decode cX7_tell 27 = .ok (.getfield 59, 3) := oc_180 (a := 0) (b := 59) (by decide +kernel)
theorem dX7_tell_30 : decode cX7_tell 30 = .ok (.iload_n 2, 1) := oc_28 (by decide +kernel)
theorem dX7_tell_31 : decode cX7_tell 31 = .ok (.iastore, 1) := oc_79 (by decide +kernel)
theorem dX7_tell_32 : decode cX7_tell 32 = .ok (.aload_n 0, 1) := oc_42 (by decide +kernel)
theorem dX7_tell_33 : decode cX7_tell 33 = .ok (.getfield 18, 3) := oc_180 (a := 0) (b := 18) (by decide +kernel)
theorem dX7_tell_36 : decode cX7_tell 36 = .ok (.aload_n 0, 1) := oc_42 (by decide +kernel)
theorem dX7_tell_37 : decode cX7_tell 37 = .ok (.getfield 59, 3) := oc_180 (a := 0) (b := 59) (by decide +kernel)
theorem dX7_tell_40 : decode cX7_tell 40 = .ok (.iload_n 3, 1) := oc_29 (by decide +kernel)
theorem dX7_tell_41 : decode cX7_tell 41 = .ok (.iastore, 1) := oc_79 (by decide +kernel)
theorem dX7_tell_42 : decode cX7_tell 42 = .ok (.aload_n 0, 1) := oc_42 (by decide +kernel)
theorem dX7_tell_43 : decode cX7_tell 43 = .ok (.getfield 21, 3) := oc_180 (a := 0) (b := 21) (by decide +kernel)
theorem dX7_tell_46 : decode cX7_tell 46 = .ok (.aload_n 0, 1) := oc_42 (by decide +kernel)
theorem dX7_tell_47 : decode cX7_tell 47 = .ok (.getfield 59, 3) := oc_180 (a := 0) (b := 59) (by decide +kernel)
theorem dX7_tell_50 : decode cX7_tell 50 = .ok (.iload 4, 2) := oc_21 (by decide +kernel)
theorem dX7_tell_52 : decode cX7_tell 52 = .ok (.iastore, 1) := oc_79 (by decide +kernel)
theorem dX7_tell_53 : decode cX7_tell 53 = .ok (.aload_n 0, 1) := oc_42 (by decide +kernel)
theorem dX7_tell_54 : decode cX7_tell 54 = .ok (.dup, 1) := oc_89 (by decide +kernel)
theorem dX7_tell_55 : decode cX7_tell 55 = .ok (.getfield 59, 3) := oc_180 (a := 0) (b := 59) (by decide +kernel)
theorem dX7_tell_58 : decode cX7_tell 58 = .ok (.iconst 1, 1) := oc_4 (by decide +kernel)
theorem dX7_tell_59 : decode cX7_tell 59 = .ok (.iadd, 1) := oc_96 (by decide +kernel)
theorem dX7_tell_60 : decode cX7_tell 60 = .ok (.putfield 59, 3) := oc_181 (a := 0) (b := 59) (by decide +kernel)
theorem dX7_tell_63 : decode cX7_tell 63 = .ok (.aload_n 0, 1) := oc_42 (by decide +kernel)
theorem dX7_tell_64 : decode cX7_tell 64 = .ok (.getfield 59, 3) := oc_180 (a := 0) (b := 59) (by decide +kernel)
theorem dX7_tell_67 : decode cX7_tell 67 = .ok (.ireturn, 1) := oc_172 (by decide +kernel)
theorem dX7_tell_10 : decode cX7_tell 10 = .ok (.iconst (-1), 1) := oc_2 (by decide +kernel)
theorem dX7_tell_11 : decode cX7_tell 11 = .ok (.ireturn, 1) := oc_172 (by decide +kernel)
set_option maxHeartbeats 4000000 in
set_option maxRecDepth 100000 in
theorem s_X11_copy_225_225 (l : Launch) (D : va_G) (t : pq_T) (σ : pq_S) (I : Nat → Nat → Int32) (J : Nat → Nat → Int64) (ri : Nat → Nat → Int32) (rj : Nat → Nat → Int64) (rq : Nat → Nat → Option Nat) (sz : Nat) (tg : Nat → Nat) (hSH : SH σ tg) (hG0 : GS tg σ I ri rq) (a0 : Nat) (a1 : Nat) (hL_a0 : a0 ∈ σ.1) (hK_a0 : σ.2.1 a0 = 13) (hN_a0 : σ.2.2.2 a0 = 200) (hT_a0 : tg a0 = 225) (hL_a1 : a1 ∈ σ.1) (hK_a1 : σ.2.1 a1 = 13) (hN_a1 : σ.2.2.2 a1 = 200) (hT_a1 : tg a1 = 225) : MetV l yX11_copy (wa yX11_copy cX11_copy 2 none) ({ frames := 1, cells := 0, slots := 0, locals := 60 }) [.ref a0, .ref a1] D t σ (I, J, ri, rj, rq) sz 0 0 (fun (u : pq_S × pq_M) => ∃ ri' : Nat → Nat → Int32, u = (σ, I, J, ri', rj, rq) ∧ GX [1225] tg σ I ri rj I ri' rj rq ∧ (∀ j, j < 200 → ri' a1 j = ri a0 j) ∧ (∀ q, q ≠ a1 → ri' q = ri q) ∧ (ri' = va_up ri a1 (va_cpy (ri a0) (ri a1) 0 0 200))) := by
  refine Met.ofW (cc := cX11_copy) (maxL := 2) (ret := none) (by decide) rfl ?_
  intro p e s m args below meth c s₁ B hml hv
  obtain ⟨rfl, hsz, hP, hK, hD0, hN⟩ := hv
  have hx := B.exec
  have hb := B.bytes
  have hr := B.returns
  have hts := atoms_spec (ws := (wa yX11_copy cX11_copy 2 none)) B.pre
  have hown : s.vm.findClass RX11 = some m.cls := findClass_of_methodNamed B.named
  have hlocks := B.notSynchronized
  subst hsz
  have hD : va_D (pq_B t σ (I, J, ri, rj, rq) s.heap.size) (pq_P t σ (I, J, ri, rj, rq)) := hD0.self
  generalize hAe : pq_B t σ (I, J, ri, rj, rq) s.heap.size = A at hD ⊢
  have hA : ∀ q : Nat, s.heap.size ≤ q → A q := fun q h => by rw [← hAe]; exact Or.inr h
  have hS : va_S A s.heap s.heap [] := va_S.rf
  have hG : GX [1225] tg σ I ri rj I ri rj rq := ⟨hG0, fun _ _ _ => rfl, fun _ _ _ _ _ => rfl, fun _ _ _ _ _ => rfl⟩
  have hl := lv_entry ([.ref a0, .ref a1]) (n := 2) (Nat.le_of_ble_eq_true rfl)
  rw [lg_entry_eq]
  generalize (lg_sl ([.ref a0, .ref a1]) ++ List.replicate (2 - (lg_sl ([.ref a0, .ref a1])).length) Slot.unset).toArray = ls at hl ⊢
  have hl : lv_has ls 2 [(0, .ref a0), (1, .ref a1)] := hl
  refine q_gen (fun Q hQ => ?_)
  have go : ∀ (H : Heap) (locs : List Loc) (ls : Array Slot), va_P D vwCl (pq_P t σ (I, J, ri, rj, rq)) H → va_D A (pq_P t σ (I, J, ri, rj, rq)) → va_S A s.heap H locs → lv_has ls 2 [(0, .ref a0), (1, .ref a1)] → W p l e ({ frames := 1, cells := 0, slots := 0, locals := 60 } : Room) s m (List.toArray ([.ref a0, .ref a1] : List Value)) below meth c H locs 0 0 Q (F0 m 0 ls []) := by
    intro H locs ls hP hD hS hl
    refine lv_aload_n hx hb dX11_copy_0 rfl (lv_at hl 0 rfl) ?_
    refine lv_iconst (v := 0) hx hb dX11_copy_1 (by decide) ?_
    refine lv_aload_n hx hb dX11_copy_2 rfl (lv_at hl 1 rfl) ?_
    refine lv_iconst (v := 0) hx hb dX11_copy_3 (by decide) ?_
    refine lv_aload_n hx hb dX11_copy_4 rfl (lv_at hl 0 rfl) ?_
    refine pn_i (v := 200) hx hb hK hP hL_a0 hK_a0 hN_a0 (by decide) dX11_copy_5 ?_
    refine lv_aload_n hx hb dX11_copy_6 rfl (lv_at hl 1 rfl) ?_
    refine pn_i (v := 200) hx hb hK hP hL_a1 hK_a1 hN_a1 (by decide) dX11_copy_7 ?_
    refine va_mmin hx hb (hml.trans hl.1.symm) hown (hts _ (tw_c tw_1103)) (hts _ (tw_c tw_467)) (hts _ (tw_c tw_276)) (hts _ (tw_c tw_468)) (Nat.le_of_ble_eq_true rfl) (Nat.le_of_ble_eq_true rfl) (Nat.zero_le _) (Nat.zero_le _) dX11_copy_8 ?_
    refine lv_topi (fun x_1 ex_1 => ?_)
    have h_2 : rg x_1 200 200 := rg_of_eq ex_1 (rg_min2 (rg_k (200 : Int32) 200 rfl) (rg_k (200 : Int32) 200 rfl) (by decide))
    refine pc_i hx hb (hml.trans hl.1.symm) hown (hts _ (tw_c tw_1104)) (hts _ (tw_c tw_1105)) (hts _ (tw_c tw_1106)) (hts _ (tw_c tw_1107)) hK hP hD hS hL_a0 hK_a0 hN_a0 hL_a1 hK_a1 hN_a1 (rg_pos (rg_k (0 : Int32) 0 rfl) (by decide)) (rg_pos h_2 (by decide)) (rg_cp (rg_k (0 : Int32) 0 rfl) h_2 (by decide)) (rg_cl h_2 (by decide)) (Nat.le_of_ble_eq_true rfl) (Nat.le_of_ble_eq_true rfl) dX11_copy_11 (fun r_3 H locs er_3 hP hD hS => ?_)
    have hG := GX.cR hG hSH hT_a0 rfl hT_a1 rfl er_3 (by decide)
    subst hQ
    exact W.vret hx hb hr (fun t1 ht hW => ⟨⟨(σ, I, J, r_3, rj, rq), rfl, ⟨r_3, rfl, hG, (cpy_eq er_3 h_2 rfl), (fun q hq => by rw [er_3, va_up_ne _ _ hq]), (by rw [er_3, show (x_1).toNatClampNeg = 200 from by have z_i := clampE x_1; have z_r := h_2; have z_1 := z_r.1; have z_2 := z_r.2; omega]; rfl)⟩, by rw [ht]; exact hP, va_K.moved hW.alike hK, hD⟩, hS.F ht⟩) hS.2.2 dX11_copy_14
  exact go _ _ _ hP hD hS hl

set_option maxHeartbeats 4000000 in
set_option maxRecDepth 100000 in
theorem s_X11_copy_226_226 (l : Launch) (D : va_G) (t : pq_T) (σ : pq_S) (I : Nat → Nat → Int32) (J : Nat → Nat → Int64) (ri : Nat → Nat → Int32) (rj : Nat → Nat → Int64) (rq : Nat → Nat → Option Nat) (sz : Nat) (tg : Nat → Nat) (hSH : SH σ tg) (hG0 : GS tg σ I ri rq) (a0 : Nat) (a1 : Nat) (hL_a0 : a0 ∈ σ.1) (hK_a0 : σ.2.1 a0 = 13) (hN_a0 : σ.2.2.2 a0 = 200) (hT_a0 : tg a0 = 226) (hL_a1 : a1 ∈ σ.1) (hK_a1 : σ.2.1 a1 = 13) (hN_a1 : σ.2.2.2 a1 = 200) (hT_a1 : tg a1 = 226) : MetV l yX11_copy (wa yX11_copy cX11_copy 2 none) ({ frames := 1, cells := 0, slots := 0, locals := 60 }) [.ref a0, .ref a1] D t σ (I, J, ri, rj, rq) sz 0 0 (fun (u : pq_S × pq_M) => ∃ ri' : Nat → Nat → Int32, u = (σ, I, J, ri', rj, rq) ∧ GX [1226] tg σ I ri rj I ri' rj rq ∧ (∀ j, j < 200 → ri' a1 j = ri a0 j) ∧ (∀ q, q ≠ a1 → ri' q = ri q) ∧ (ri' = va_up ri a1 (va_cpy (ri a0) (ri a1) 0 0 200))) := by
  refine Met.ofW (cc := cX11_copy) (maxL := 2) (ret := none) (by decide) rfl ?_
  intro p e s m args below meth c s₁ B hml hv
  obtain ⟨rfl, hsz, hP, hK, hD0, hN⟩ := hv
  have hx := B.exec
  have hb := B.bytes
  have hr := B.returns
  have hts := atoms_spec (ws := (wa yX11_copy cX11_copy 2 none)) B.pre
  have hown : s.vm.findClass RX11 = some m.cls := findClass_of_methodNamed B.named
  have hlocks := B.notSynchronized
  subst hsz
  have hD : va_D (pq_B t σ (I, J, ri, rj, rq) s.heap.size) (pq_P t σ (I, J, ri, rj, rq)) := hD0.self
  generalize hAe : pq_B t σ (I, J, ri, rj, rq) s.heap.size = A at hD ⊢
  have hA : ∀ q : Nat, s.heap.size ≤ q → A q := fun q h => by rw [← hAe]; exact Or.inr h
  have hS : va_S A s.heap s.heap [] := va_S.rf
  have hG : GX [1226] tg σ I ri rj I ri rj rq := ⟨hG0, fun _ _ _ => rfl, fun _ _ _ _ _ => rfl, fun _ _ _ _ _ => rfl⟩
  have hl := lv_entry ([.ref a0, .ref a1]) (n := 2) (Nat.le_of_ble_eq_true rfl)
  rw [lg_entry_eq]
  generalize (lg_sl ([.ref a0, .ref a1]) ++ List.replicate (2 - (lg_sl ([.ref a0, .ref a1])).length) Slot.unset).toArray = ls at hl ⊢
  have hl : lv_has ls 2 [(0, .ref a0), (1, .ref a1)] := hl
  refine q_gen (fun Q hQ => ?_)
  have go : ∀ (H : Heap) (locs : List Loc) (ls : Array Slot), va_P D vwCl (pq_P t σ (I, J, ri, rj, rq)) H → va_D A (pq_P t σ (I, J, ri, rj, rq)) → va_S A s.heap H locs → lv_has ls 2 [(0, .ref a0), (1, .ref a1)] → W p l e ({ frames := 1, cells := 0, slots := 0, locals := 60 } : Room) s m (List.toArray ([.ref a0, .ref a1] : List Value)) below meth c H locs 0 0 Q (F0 m 0 ls []) := by
    intro H locs ls hP hD hS hl
    refine lv_aload_n hx hb dX11_copy_0 rfl (lv_at hl 0 rfl) ?_
    refine lv_iconst (v := 0) hx hb dX11_copy_1 (by decide) ?_
    refine lv_aload_n hx hb dX11_copy_2 rfl (lv_at hl 1 rfl) ?_
    refine lv_iconst (v := 0) hx hb dX11_copy_3 (by decide) ?_
    refine lv_aload_n hx hb dX11_copy_4 rfl (lv_at hl 0 rfl) ?_
    refine pn_i (v := 200) hx hb hK hP hL_a0 hK_a0 hN_a0 (by decide) dX11_copy_5 ?_
    refine lv_aload_n hx hb dX11_copy_6 rfl (lv_at hl 1 rfl) ?_
    refine pn_i (v := 200) hx hb hK hP hL_a1 hK_a1 hN_a1 (by decide) dX11_copy_7 ?_
    refine va_mmin hx hb (hml.trans hl.1.symm) hown (hts _ (tw_c tw_1103)) (hts _ (tw_c tw_467)) (hts _ (tw_c tw_276)) (hts _ (tw_c tw_468)) (Nat.le_of_ble_eq_true rfl) (Nat.le_of_ble_eq_true rfl) (Nat.zero_le _) (Nat.zero_le _) dX11_copy_8 ?_
    refine lv_topi (fun x_1 ex_1 => ?_)
    have h_2 : rg x_1 200 200 := rg_of_eq ex_1 (rg_min2 (rg_k (200 : Int32) 200 rfl) (rg_k (200 : Int32) 200 rfl) (by decide))
    refine pc_i hx hb (hml.trans hl.1.symm) hown (hts _ (tw_c tw_1104)) (hts _ (tw_c tw_1105)) (hts _ (tw_c tw_1106)) (hts _ (tw_c tw_1107)) hK hP hD hS hL_a0 hK_a0 hN_a0 hL_a1 hK_a1 hN_a1 (rg_pos (rg_k (0 : Int32) 0 rfl) (by decide)) (rg_pos h_2 (by decide)) (rg_cp (rg_k (0 : Int32) 0 rfl) h_2 (by decide)) (rg_cl h_2 (by decide)) (Nat.le_of_ble_eq_true rfl) (Nat.le_of_ble_eq_true rfl) dX11_copy_11 (fun r_3 H locs er_3 hP hD hS => ?_)
    have hG := GX.cR hG hSH hT_a0 rfl hT_a1 rfl er_3 (by decide)
    subst hQ
    exact W.vret hx hb hr (fun t1 ht hW => ⟨⟨(σ, I, J, r_3, rj, rq), rfl, ⟨r_3, rfl, hG, (cpy_eq er_3 h_2 rfl), (fun q hq => by rw [er_3, va_up_ne _ _ hq]), (by rw [er_3, show (x_1).toNatClampNeg = 200 from by have z_i := clampE x_1; have z_r := h_2; have z_1 := z_r.1; have z_2 := z_r.2; omega]; rfl)⟩, by rw [ht]; exact hP, va_K.moved hW.alike hK, hD⟩, hS.F ht⟩) hS.2.2 dX11_copy_14
  exact go _ _ _ hP hD hS hl

set_option maxHeartbeats 4000000 in
set_option maxRecDepth 100000 in
theorem s_X11_copy_227_227 (l : Launch) (D : va_G) (t : pq_T) (σ : pq_S) (I : Nat → Nat → Int32) (J : Nat → Nat → Int64) (ri : Nat → Nat → Int32) (rj : Nat → Nat → Int64) (rq : Nat → Nat → Option Nat) (sz : Nat) (tg : Nat → Nat) (hSH : SH σ tg) (hG0 : GS tg σ I ri rq) (a0 : Nat) (a1 : Nat) (hL_a0 : a0 ∈ σ.1) (hK_a0 : σ.2.1 a0 = 13) (hN_a0 : σ.2.2.2 a0 = 200) (hT_a0 : tg a0 = 227) (hL_a1 : a1 ∈ σ.1) (hK_a1 : σ.2.1 a1 = 13) (hN_a1 : σ.2.2.2 a1 = 200) (hT_a1 : tg a1 = 227) : MetV l yX11_copy (wa yX11_copy cX11_copy 2 none) ({ frames := 1, cells := 0, slots := 0, locals := 60 }) [.ref a0, .ref a1] D t σ (I, J, ri, rj, rq) sz 0 0 (fun (u : pq_S × pq_M) => ∃ ri' : Nat → Nat → Int32, u = (σ, I, J, ri', rj, rq) ∧ GX [1227] tg σ I ri rj I ri' rj rq ∧ (∀ j, j < 200 → ri' a1 j = ri a0 j) ∧ (∀ q, q ≠ a1 → ri' q = ri q) ∧ (ri' = va_up ri a1 (va_cpy (ri a0) (ri a1) 0 0 200))) := by
  refine Met.ofW (cc := cX11_copy) (maxL := 2) (ret := none) (by decide) rfl ?_
  intro p e s m args below meth c s₁ B hml hv
  obtain ⟨rfl, hsz, hP, hK, hD0, hN⟩ := hv
  have hx := B.exec
  have hb := B.bytes
  have hr := B.returns
  have hts := atoms_spec (ws := (wa yX11_copy cX11_copy 2 none)) B.pre
  have hown : s.vm.findClass RX11 = some m.cls := findClass_of_methodNamed B.named
  have hlocks := B.notSynchronized
  subst hsz
  have hD : va_D (pq_B t σ (I, J, ri, rj, rq) s.heap.size) (pq_P t σ (I, J, ri, rj, rq)) := hD0.self
  generalize hAe : pq_B t σ (I, J, ri, rj, rq) s.heap.size = A at hD ⊢
  have hA : ∀ q : Nat, s.heap.size ≤ q → A q := fun q h => by rw [← hAe]; exact Or.inr h
  have hS : va_S A s.heap s.heap [] := va_S.rf
  have hG : GX [1227] tg σ I ri rj I ri rj rq := ⟨hG0, fun _ _ _ => rfl, fun _ _ _ _ _ => rfl, fun _ _ _ _ _ => rfl⟩
  have hl := lv_entry ([.ref a0, .ref a1]) (n := 2) (Nat.le_of_ble_eq_true rfl)
  rw [lg_entry_eq]
  generalize (lg_sl ([.ref a0, .ref a1]) ++ List.replicate (2 - (lg_sl ([.ref a0, .ref a1])).length) Slot.unset).toArray = ls at hl ⊢
  have hl : lv_has ls 2 [(0, .ref a0), (1, .ref a1)] := hl
  refine q_gen (fun Q hQ => ?_)
  have go : ∀ (H : Heap) (locs : List Loc) (ls : Array Slot), va_P D vwCl (pq_P t σ (I, J, ri, rj, rq)) H → va_D A (pq_P t σ (I, J, ri, rj, rq)) → va_S A s.heap H locs → lv_has ls 2 [(0, .ref a0), (1, .ref a1)] → W p l e ({ frames := 1, cells := 0, slots := 0, locals := 60 } : Room) s m (List.toArray ([.ref a0, .ref a1] : List Value)) below meth c H locs 0 0 Q (F0 m 0 ls []) := by
    intro H locs ls hP hD hS hl
    refine lv_aload_n hx hb dX11_copy_0 rfl (lv_at hl 0 rfl) ?_
    refine lv_iconst (v := 0) hx hb dX11_copy_1 (by decide) ?_
    refine lv_aload_n hx hb dX11_copy_2 rfl (lv_at hl 1 rfl) ?_
    refine lv_iconst (v := 0) hx hb dX11_copy_3 (by decide) ?_
    refine lv_aload_n hx hb dX11_copy_4 rfl (lv_at hl 0 rfl) ?_
    refine pn_i (v := 200) hx hb hK hP hL_a0 hK_a0 hN_a0 (by decide) dX11_copy_5 ?_
    refine lv_aload_n hx hb dX11_copy_6 rfl (lv_at hl 1 rfl) ?_
    refine pn_i (v := 200) hx hb hK hP hL_a1 hK_a1 hN_a1 (by decide) dX11_copy_7 ?_
    refine va_mmin hx hb (hml.trans hl.1.symm) hown (hts _ (tw_c tw_1103)) (hts _ (tw_c tw_467)) (hts _ (tw_c tw_276)) (hts _ (tw_c tw_468)) (Nat.le_of_ble_eq_true rfl) (Nat.le_of_ble_eq_true rfl) (Nat.zero_le _) (Nat.zero_le _) dX11_copy_8 ?_
    refine lv_topi (fun x_1 ex_1 => ?_)
    have h_2 : rg x_1 200 200 := rg_of_eq ex_1 (rg_min2 (rg_k (200 : Int32) 200 rfl) (rg_k (200 : Int32) 200 rfl) (by decide))
    refine pc_i hx hb (hml.trans hl.1.symm) hown (hts _ (tw_c tw_1104)) (hts _ (tw_c tw_1105)) (hts _ (tw_c tw_1106)) (hts _ (tw_c tw_1107)) hK hP hD hS hL_a0 hK_a0 hN_a0 hL_a1 hK_a1 hN_a1 (rg_pos (rg_k (0 : Int32) 0 rfl) (by decide)) (rg_pos h_2 (by decide)) (rg_cp (rg_k (0 : Int32) 0 rfl) h_2 (by decide)) (rg_cl h_2 (by decide)) (Nat.le_of_ble_eq_true rfl) (Nat.le_of_ble_eq_true rfl) dX11_copy_11 (fun r_3 H locs er_3 hP hD hS => ?_)
    have hG := GX.cR hG hSH hT_a0 rfl hT_a1 rfl er_3 (by decide)
    subst hQ
    exact W.vret hx hb hr (fun t1 ht hW => ⟨⟨(σ, I, J, r_3, rj, rq), rfl, ⟨r_3, rfl, hG, (cpy_eq er_3 h_2 rfl), (fun q hq => by rw [er_3, va_up_ne _ _ hq]), (by rw [er_3, show (x_1).toNatClampNeg = 200 from by have z_i := clampE x_1; have z_r := h_2; have z_1 := z_r.1; have z_2 := z_r.2; omega]; rfl)⟩, by rw [ht]; exact hP, va_K.moved hW.alike hK, hD⟩, hS.F ht⟩) hS.2.2 dX11_copy_14
  exact go _ _ _ hP hD hS hl

set_option maxHeartbeats 4000000 in
set_option maxRecDepth 100000 in
theorem s_X11_copy_228_228 (l : Launch) (D : va_G) (t : pq_T) (σ : pq_S) (I : Nat → Nat → Int32) (J : Nat → Nat → Int64) (ri : Nat → Nat → Int32) (rj : Nat → Nat → Int64) (rq : Nat → Nat → Option Nat) (sz : Nat) (tg : Nat → Nat) (hSH : SH σ tg) (hG0 : GS tg σ I ri rq) (a0 : Nat) (a1 : Nat) (hL_a0 : a0 ∈ σ.1) (hK_a0 : σ.2.1 a0 = 13) (hN_a0 : σ.2.2.2 a0 = 200) (hT_a0 : tg a0 = 228) (hL_a1 : a1 ∈ σ.1) (hK_a1 : σ.2.1 a1 = 13) (hN_a1 : σ.2.2.2 a1 = 200) (hT_a1 : tg a1 = 228) : MetV l yX11_copy (wa yX11_copy cX11_copy 2 none) ({ frames := 1, cells := 0, slots := 0, locals := 60 }) [.ref a0, .ref a1] D t σ (I, J, ri, rj, rq) sz 0 0 (fun (u : pq_S × pq_M) => ∃ ri' : Nat → Nat → Int32, u = (σ, I, J, ri', rj, rq) ∧ GX [1228] tg σ I ri rj I ri' rj rq ∧ (∀ j, j < 200 → ri' a1 j = ri a0 j) ∧ (∀ q, q ≠ a1 → ri' q = ri q) ∧ (ri' = va_up ri a1 (va_cpy (ri a0) (ri a1) 0 0 200))) := by
  refine Met.ofW (cc := cX11_copy) (maxL := 2) (ret := none) (by decide) rfl ?_
  intro p e s m args below meth c s₁ B hml hv
  obtain ⟨rfl, hsz, hP, hK, hD0, hN⟩ := hv
  have hx := B.exec
  have hb := B.bytes
  have hr := B.returns
  have hts := atoms_spec (ws := (wa yX11_copy cX11_copy 2 none)) B.pre
  have hown : s.vm.findClass RX11 = some m.cls := findClass_of_methodNamed B.named
  have hlocks := B.notSynchronized
  subst hsz
  have hD : va_D (pq_B t σ (I, J, ri, rj, rq) s.heap.size) (pq_P t σ (I, J, ri, rj, rq)) := hD0.self
  generalize hAe : pq_B t σ (I, J, ri, rj, rq) s.heap.size = A at hD ⊢
  have hA : ∀ q : Nat, s.heap.size ≤ q → A q := fun q h => by rw [← hAe]; exact Or.inr h
  have hS : va_S A s.heap s.heap [] := va_S.rf
  have hG : GX [1228] tg σ I ri rj I ri rj rq := ⟨hG0, fun _ _ _ => rfl, fun _ _ _ _ _ => rfl, fun _ _ _ _ _ => rfl⟩
  have hl := lv_entry ([.ref a0, .ref a1]) (n := 2) (Nat.le_of_ble_eq_true rfl)
  rw [lg_entry_eq]
  generalize (lg_sl ([.ref a0, .ref a1]) ++ List.replicate (2 - (lg_sl ([.ref a0, .ref a1])).length) Slot.unset).toArray = ls at hl ⊢
  have hl : lv_has ls 2 [(0, .ref a0), (1, .ref a1)] := hl
  refine q_gen (fun Q hQ => ?_)
  have go : ∀ (H : Heap) (locs : List Loc) (ls : Array Slot), va_P D vwCl (pq_P t σ (I, J, ri, rj, rq)) H → va_D A (pq_P t σ (I, J, ri, rj, rq)) → va_S A s.heap H locs → lv_has ls 2 [(0, .ref a0), (1, .ref a1)] → W p l e ({ frames := 1, cells := 0, slots := 0, locals := 60 } : Room) s m (List.toArray ([.ref a0, .ref a1] : List Value)) below meth c H locs 0 0 Q (F0 m 0 ls []) := by
    intro H locs ls hP hD hS hl
    refine lv_aload_n hx hb dX11_copy_0 rfl (lv_at hl 0 rfl) ?_
    refine lv_iconst (v := 0) hx hb dX11_copy_1 (by decide) ?_
    refine lv_aload_n hx hb dX11_copy_2 rfl (lv_at hl 1 rfl) ?_
    refine lv_iconst (v := 0) hx hb dX11_copy_3 (by decide) ?_
    refine lv_aload_n hx hb dX11_copy_4 rfl (lv_at hl 0 rfl) ?_
    refine pn_i (v := 200) hx hb hK hP hL_a0 hK_a0 hN_a0 (by decide) dX11_copy_5 ?_
    refine lv_aload_n hx hb dX11_copy_6 rfl (lv_at hl 1 rfl) ?_
    refine pn_i (v := 200) hx hb hK hP hL_a1 hK_a1 hN_a1 (by decide) dX11_copy_7 ?_
    refine va_mmin hx hb (hml.trans hl.1.symm) hown (hts _ (tw_c tw_1103)) (hts _ (tw_c tw_467)) (hts _ (tw_c tw_276)) (hts _ (tw_c tw_468)) (Nat.le_of_ble_eq_true rfl) (Nat.le_of_ble_eq_true rfl) (Nat.zero_le _) (Nat.zero_le _) dX11_copy_8 ?_
    refine lv_topi (fun x_1 ex_1 => ?_)
    have h_2 : rg x_1 200 200 := rg_of_eq ex_1 (rg_min2 (rg_k (200 : Int32) 200 rfl) (rg_k (200 : Int32) 200 rfl) (by decide))
    refine pc_i hx hb (hml.trans hl.1.symm) hown (hts _ (tw_c tw_1104)) (hts _ (tw_c tw_1105)) (hts _ (tw_c tw_1106)) (hts _ (tw_c tw_1107)) hK hP hD hS hL_a0 hK_a0 hN_a0 hL_a1 hK_a1 hN_a1 (rg_pos (rg_k (0 : Int32) 0 rfl) (by decide)) (rg_pos h_2 (by decide)) (rg_cp (rg_k (0 : Int32) 0 rfl) h_2 (by decide)) (rg_cl h_2 (by decide)) (Nat.le_of_ble_eq_true rfl) (Nat.le_of_ble_eq_true rfl) dX11_copy_11 (fun r_3 H locs er_3 hP hD hS => ?_)
    have hG := GX.cR hG hSH hT_a0 rfl hT_a1 rfl er_3 (by decide)
    subst hQ
    exact W.vret hx hb hr (fun t1 ht hW => ⟨⟨(σ, I, J, r_3, rj, rq), rfl, ⟨r_3, rfl, hG, (cpy_eq er_3 h_2 rfl), (fun q hq => by rw [er_3, va_up_ne _ _ hq]), (by rw [er_3, show (x_1).toNatClampNeg = 200 from by have z_i := clampE x_1; have z_r := h_2; have z_1 := z_r.1; have z_2 := z_r.2; omega]; rfl)⟩, by rw [ht]; exact hP, va_K.moved hW.alike hK, hD⟩, hS.F ht⟩) hS.2.2 dX11_copy_14
  exact go _ _ _ hP hD hS hl

set_option maxHeartbeats 4000000 in
set_option maxRecDepth 100000 in
theorem s_X11_copy_229_229 (l : Launch) (D : va_G) (t : pq_T) (σ : pq_S) (I : Nat → Nat → Int32) (J : Nat → Nat → Int64) (ri : Nat → Nat → Int32) (rj : Nat → Nat → Int64) (rq : Nat → Nat → Option Nat) (sz : Nat) (tg : Nat → Nat) (hSH : SH σ tg) (hG0 : GS tg σ I ri rq) (a0 : Nat) (a1 : Nat) (hL_a0 : a0 ∈ σ.1) (hK_a0 : σ.2.1 a0 = 13) (hN_a0 : σ.2.2.2 a0 = 12) (hT_a0 : tg a0 = 229) (hL_a1 : a1 ∈ σ.1) (hK_a1 : σ.2.1 a1 = 13) (hN_a1 : σ.2.2.2 a1 = 12) (hT_a1 : tg a1 = 229) : MetV l yX11_copy (wa yX11_copy cX11_copy 2 none) ({ frames := 1, cells := 0, slots := 0, locals := 60 }) [.ref a0, .ref a1] D t σ (I, J, ri, rj, rq) sz 0 0 (fun (u : pq_S × pq_M) => ∃ ri' : Nat → Nat → Int32, u = (σ, I, J, ri', rj, rq) ∧ GX [1229] tg σ I ri rj I ri' rj rq ∧ (∀ j, j < 12 → ri' a1 j = ri a0 j) ∧ (∀ q, q ≠ a1 → ri' q = ri q) ∧ (ri' = va_up ri a1 (va_cpy (ri a0) (ri a1) 0 0 12))) := by
  refine Met.ofW (cc := cX11_copy) (maxL := 2) (ret := none) (by decide) rfl ?_
  intro p e s m args below meth c s₁ B hml hv
  obtain ⟨rfl, hsz, hP, hK, hD0, hN⟩ := hv
  have hx := B.exec
  have hb := B.bytes
  have hr := B.returns
  have hts := atoms_spec (ws := (wa yX11_copy cX11_copy 2 none)) B.pre
  have hown : s.vm.findClass RX11 = some m.cls := findClass_of_methodNamed B.named
  have hlocks := B.notSynchronized
  subst hsz
  have hD : va_D (pq_B t σ (I, J, ri, rj, rq) s.heap.size) (pq_P t σ (I, J, ri, rj, rq)) := hD0.self
  generalize hAe : pq_B t σ (I, J, ri, rj, rq) s.heap.size = A at hD ⊢
  have hA : ∀ q : Nat, s.heap.size ≤ q → A q := fun q h => by rw [← hAe]; exact Or.inr h
  have hS : va_S A s.heap s.heap [] := va_S.rf
  have hG : GX [1229] tg σ I ri rj I ri rj rq := ⟨hG0, fun _ _ _ => rfl, fun _ _ _ _ _ => rfl, fun _ _ _ _ _ => rfl⟩
  have hl := lv_entry ([.ref a0, .ref a1]) (n := 2) (Nat.le_of_ble_eq_true rfl)
  rw [lg_entry_eq]
  generalize (lg_sl ([.ref a0, .ref a1]) ++ List.replicate (2 - (lg_sl ([.ref a0, .ref a1])).length) Slot.unset).toArray = ls at hl ⊢
  have hl : lv_has ls 2 [(0, .ref a0), (1, .ref a1)] := hl
  refine q_gen (fun Q hQ => ?_)
  have go : ∀ (H : Heap) (locs : List Loc) (ls : Array Slot), va_P D vwCl (pq_P t σ (I, J, ri, rj, rq)) H → va_D A (pq_P t σ (I, J, ri, rj, rq)) → va_S A s.heap H locs → lv_has ls 2 [(0, .ref a0), (1, .ref a1)] → W p l e ({ frames := 1, cells := 0, slots := 0, locals := 60 } : Room) s m (List.toArray ([.ref a0, .ref a1] : List Value)) below meth c H locs 0 0 Q (F0 m 0 ls []) := by
    intro H locs ls hP hD hS hl
    refine lv_aload_n hx hb dX11_copy_0 rfl (lv_at hl 0 rfl) ?_
    refine lv_iconst (v := 0) hx hb dX11_copy_1 (by decide) ?_
    refine lv_aload_n hx hb dX11_copy_2 rfl (lv_at hl 1 rfl) ?_
    refine lv_iconst (v := 0) hx hb dX11_copy_3 (by decide) ?_
    refine lv_aload_n hx hb dX11_copy_4 rfl (lv_at hl 0 rfl) ?_
    refine pn_i (v := 12) hx hb hK hP hL_a0 hK_a0 hN_a0 (by decide) dX11_copy_5 ?_
    refine lv_aload_n hx hb dX11_copy_6 rfl (lv_at hl 1 rfl) ?_
    refine pn_i (v := 12) hx hb hK hP hL_a1 hK_a1 hN_a1 (by decide) dX11_copy_7 ?_
    refine va_mmin hx hb (hml.trans hl.1.symm) hown (hts _ (tw_c tw_1103)) (hts _ (tw_c tw_467)) (hts _ (tw_c tw_276)) (hts _ (tw_c tw_468)) (Nat.le_of_ble_eq_true rfl) (Nat.le_of_ble_eq_true rfl) (Nat.zero_le _) (Nat.zero_le _) dX11_copy_8 ?_
    refine lv_topi (fun x_1 ex_1 => ?_)
    have h_2 : rg x_1 12 12 := rg_of_eq ex_1 (rg_min2 (rg_k (12 : Int32) 12 rfl) (rg_k (12 : Int32) 12 rfl) (by decide))
    refine pc_i hx hb (hml.trans hl.1.symm) hown (hts _ (tw_c tw_1104)) (hts _ (tw_c tw_1105)) (hts _ (tw_c tw_1106)) (hts _ (tw_c tw_1107)) hK hP hD hS hL_a0 hK_a0 hN_a0 hL_a1 hK_a1 hN_a1 (rg_pos (rg_k (0 : Int32) 0 rfl) (by decide)) (rg_pos h_2 (by decide)) (rg_cp (rg_k (0 : Int32) 0 rfl) h_2 (by decide)) (rg_cl h_2 (by decide)) (Nat.le_of_ble_eq_true rfl) (Nat.le_of_ble_eq_true rfl) dX11_copy_11 (fun r_3 H locs er_3 hP hD hS => ?_)
    have hG := GX.cR hG hSH hT_a0 rfl hT_a1 rfl er_3 (by decide)
    subst hQ
    exact W.vret hx hb hr (fun t1 ht hW => ⟨⟨(σ, I, J, r_3, rj, rq), rfl, ⟨r_3, rfl, hG, (cpy_eq er_3 h_2 rfl), (fun q hq => by rw [er_3, va_up_ne _ _ hq]), (by rw [er_3, show (x_1).toNatClampNeg = 12 from by have z_i := clampE x_1; have z_r := h_2; have z_1 := z_r.1; have z_2 := z_r.2; omega]; rfl)⟩, by rw [ht]; exact hP, va_K.moved hW.alike hK, hD⟩, hS.F ht⟩) hS.2.2 dX11_copy_14
  exact go _ _ _ hP hD hS hl

set_option maxHeartbeats 4000000 in
set_option maxRecDepth 100000 in
theorem s_X11_copy_230_230 (l : Launch) (D : va_G) (t : pq_T) (σ : pq_S) (I : Nat → Nat → Int32) (J : Nat → Nat → Int64) (ri : Nat → Nat → Int32) (rj : Nat → Nat → Int64) (rq : Nat → Nat → Option Nat) (sz : Nat) (tg : Nat → Nat) (hSH : SH σ tg) (hG0 : GS tg σ I ri rq) (a0 : Nat) (a1 : Nat) (hL_a0 : a0 ∈ σ.1) (hK_a0 : σ.2.1 a0 = 13) (hN_a0 : σ.2.2.2 a0 = 12) (hT_a0 : tg a0 = 230) (hL_a1 : a1 ∈ σ.1) (hK_a1 : σ.2.1 a1 = 13) (hN_a1 : σ.2.2.2 a1 = 12) (hT_a1 : tg a1 = 230) : MetV l yX11_copy (wa yX11_copy cX11_copy 2 none) ({ frames := 1, cells := 0, slots := 0, locals := 60 }) [.ref a0, .ref a1] D t σ (I, J, ri, rj, rq) sz 0 0 (fun (u : pq_S × pq_M) => ∃ ri' : Nat → Nat → Int32, u = (σ, I, J, ri', rj, rq) ∧ GX [1230] tg σ I ri rj I ri' rj rq ∧ (∀ j, j < 12 → ri' a1 j = ri a0 j) ∧ (∀ q, q ≠ a1 → ri' q = ri q) ∧ (ri' = va_up ri a1 (va_cpy (ri a0) (ri a1) 0 0 12))) := by
  refine Met.ofW (cc := cX11_copy) (maxL := 2) (ret := none) (by decide) rfl ?_
  intro p e s m args below meth c s₁ B hml hv
  obtain ⟨rfl, hsz, hP, hK, hD0, hN⟩ := hv
  have hx := B.exec
  have hb := B.bytes
  have hr := B.returns
  have hts := atoms_spec (ws := (wa yX11_copy cX11_copy 2 none)) B.pre
  have hown : s.vm.findClass RX11 = some m.cls := findClass_of_methodNamed B.named
  have hlocks := B.notSynchronized
  subst hsz
  have hD : va_D (pq_B t σ (I, J, ri, rj, rq) s.heap.size) (pq_P t σ (I, J, ri, rj, rq)) := hD0.self
  generalize hAe : pq_B t σ (I, J, ri, rj, rq) s.heap.size = A at hD ⊢
  have hA : ∀ q : Nat, s.heap.size ≤ q → A q := fun q h => by rw [← hAe]; exact Or.inr h
  have hS : va_S A s.heap s.heap [] := va_S.rf
  have hG : GX [1230] tg σ I ri rj I ri rj rq := ⟨hG0, fun _ _ _ => rfl, fun _ _ _ _ _ => rfl, fun _ _ _ _ _ => rfl⟩
  have hl := lv_entry ([.ref a0, .ref a1]) (n := 2) (Nat.le_of_ble_eq_true rfl)
  rw [lg_entry_eq]
  generalize (lg_sl ([.ref a0, .ref a1]) ++ List.replicate (2 - (lg_sl ([.ref a0, .ref a1])).length) Slot.unset).toArray = ls at hl ⊢
  have hl : lv_has ls 2 [(0, .ref a0), (1, .ref a1)] := hl
  refine q_gen (fun Q hQ => ?_)
  have go : ∀ (H : Heap) (locs : List Loc) (ls : Array Slot), va_P D vwCl (pq_P t σ (I, J, ri, rj, rq)) H → va_D A (pq_P t σ (I, J, ri, rj, rq)) → va_S A s.heap H locs → lv_has ls 2 [(0, .ref a0), (1, .ref a1)] → W p l e ({ frames := 1, cells := 0, slots := 0, locals := 60 } : Room) s m (List.toArray ([.ref a0, .ref a1] : List Value)) below meth c H locs 0 0 Q (F0 m 0 ls []) := by
    intro H locs ls hP hD hS hl
    refine lv_aload_n hx hb dX11_copy_0 rfl (lv_at hl 0 rfl) ?_
    refine lv_iconst (v := 0) hx hb dX11_copy_1 (by decide) ?_
    refine lv_aload_n hx hb dX11_copy_2 rfl (lv_at hl 1 rfl) ?_
    refine lv_iconst (v := 0) hx hb dX11_copy_3 (by decide) ?_
    refine lv_aload_n hx hb dX11_copy_4 rfl (lv_at hl 0 rfl) ?_
    refine pn_i (v := 12) hx hb hK hP hL_a0 hK_a0 hN_a0 (by decide) dX11_copy_5 ?_
    refine lv_aload_n hx hb dX11_copy_6 rfl (lv_at hl 1 rfl) ?_
    refine pn_i (v := 12) hx hb hK hP hL_a1 hK_a1 hN_a1 (by decide) dX11_copy_7 ?_
    refine va_mmin hx hb (hml.trans hl.1.symm) hown (hts _ (tw_c tw_1103)) (hts _ (tw_c tw_467)) (hts _ (tw_c tw_276)) (hts _ (tw_c tw_468)) (Nat.le_of_ble_eq_true rfl) (Nat.le_of_ble_eq_true rfl) (Nat.zero_le _) (Nat.zero_le _) dX11_copy_8 ?_
    refine lv_topi (fun x_1 ex_1 => ?_)
    have h_2 : rg x_1 12 12 := rg_of_eq ex_1 (rg_min2 (rg_k (12 : Int32) 12 rfl) (rg_k (12 : Int32) 12 rfl) (by decide))
    refine pc_i hx hb (hml.trans hl.1.symm) hown (hts _ (tw_c tw_1104)) (hts _ (tw_c tw_1105)) (hts _ (tw_c tw_1106)) (hts _ (tw_c tw_1107)) hK hP hD hS hL_a0 hK_a0 hN_a0 hL_a1 hK_a1 hN_a1 (rg_pos (rg_k (0 : Int32) 0 rfl) (by decide)) (rg_pos h_2 (by decide)) (rg_cp (rg_k (0 : Int32) 0 rfl) h_2 (by decide)) (rg_cl h_2 (by decide)) (Nat.le_of_ble_eq_true rfl) (Nat.le_of_ble_eq_true rfl) dX11_copy_11 (fun r_3 H locs er_3 hP hD hS => ?_)
    have hG := GX.cR hG hSH hT_a0 rfl hT_a1 rfl er_3 (by decide)
    subst hQ
    exact W.vret hx hb hr (fun t1 ht hW => ⟨⟨(σ, I, J, r_3, rj, rq), rfl, ⟨r_3, rfl, hG, (cpy_eq er_3 h_2 rfl), (fun q hq => by rw [er_3, va_up_ne _ _ hq]), (by rw [er_3, show (x_1).toNatClampNeg = 12 from by have z_i := clampE x_1; have z_r := h_2; have z_1 := z_r.1; have z_2 := z_r.2; omega]; rfl)⟩, by rw [ht]; exact hP, va_K.moved hW.alike hK, hD⟩, hS.F ht⟩) hS.2.2 dX11_copy_14
  exact go _ _ _ hP hD hS hl

set_option maxHeartbeats 4000000 in
set_option maxRecDepth 100000 in
theorem s_X11_copy_231_231 (l : Launch) (D : va_G) (t : pq_T) (σ : pq_S) (I : Nat → Nat → Int32) (J : Nat → Nat → Int64) (ri : Nat → Nat → Int32) (rj : Nat → Nat → Int64) (rq : Nat → Nat → Option Nat) (sz : Nat) (tg : Nat → Nat) (hSH : SH σ tg) (hG0 : GS tg σ I ri rq) (a0 : Nat) (a1 : Nat) (hL_a0 : a0 ∈ σ.1) (hK_a0 : σ.2.1 a0 = 13) (hN_a0 : σ.2.2.2 a0 = 12) (hT_a0 : tg a0 = 231) (hL_a1 : a1 ∈ σ.1) (hK_a1 : σ.2.1 a1 = 13) (hN_a1 : σ.2.2.2 a1 = 12) (hT_a1 : tg a1 = 231) : MetV l yX11_copy (wa yX11_copy cX11_copy 2 none) ({ frames := 1, cells := 0, slots := 0, locals := 60 }) [.ref a0, .ref a1] D t σ (I, J, ri, rj, rq) sz 0 0 (fun (u : pq_S × pq_M) => ∃ ri' : Nat → Nat → Int32, u = (σ, I, J, ri', rj, rq) ∧ GX [1231] tg σ I ri rj I ri' rj rq ∧ (∀ j, j < 12 → ri' a1 j = ri a0 j) ∧ (∀ q, q ≠ a1 → ri' q = ri q) ∧ (ri' = va_up ri a1 (va_cpy (ri a0) (ri a1) 0 0 12))) := by
  refine Met.ofW (cc := cX11_copy) (maxL := 2) (ret := none) (by decide) rfl ?_
  intro p e s m args below meth c s₁ B hml hv
  obtain ⟨rfl, hsz, hP, hK, hD0, hN⟩ := hv
  have hx := B.exec
  have hb := B.bytes
  have hr := B.returns
  have hts := atoms_spec (ws := (wa yX11_copy cX11_copy 2 none)) B.pre
  have hown : s.vm.findClass RX11 = some m.cls := findClass_of_methodNamed B.named
  have hlocks := B.notSynchronized
  subst hsz
  have hD : va_D (pq_B t σ (I, J, ri, rj, rq) s.heap.size) (pq_P t σ (I, J, ri, rj, rq)) := hD0.self
  generalize hAe : pq_B t σ (I, J, ri, rj, rq) s.heap.size = A at hD ⊢
  have hA : ∀ q : Nat, s.heap.size ≤ q → A q := fun q h => by rw [← hAe]; exact Or.inr h
  have hS : va_S A s.heap s.heap [] := va_S.rf
  have hG : GX [1231] tg σ I ri rj I ri rj rq := ⟨hG0, fun _ _ _ => rfl, fun _ _ _ _ _ => rfl, fun _ _ _ _ _ => rfl⟩
  have hl := lv_entry ([.ref a0, .ref a1]) (n := 2) (Nat.le_of_ble_eq_true rfl)
  rw [lg_entry_eq]
  generalize (lg_sl ([.ref a0, .ref a1]) ++ List.replicate (2 - (lg_sl ([.ref a0, .ref a1])).length) Slot.unset).toArray = ls at hl ⊢
  have hl : lv_has ls 2 [(0, .ref a0), (1, .ref a1)] := hl
  refine q_gen (fun Q hQ => ?_)
  have go : ∀ (H : Heap) (locs : List Loc) (ls : Array Slot), va_P D vwCl (pq_P t σ (I, J, ri, rj, rq)) H → va_D A (pq_P t σ (I, J, ri, rj, rq)) → va_S A s.heap H locs → lv_has ls 2 [(0, .ref a0), (1, .ref a1)] → W p l e ({ frames := 1, cells := 0, slots := 0, locals := 60 } : Room) s m (List.toArray ([.ref a0, .ref a1] : List Value)) below meth c H locs 0 0 Q (F0 m 0 ls []) := by
    intro H locs ls hP hD hS hl
    refine lv_aload_n hx hb dX11_copy_0 rfl (lv_at hl 0 rfl) ?_
    refine lv_iconst (v := 0) hx hb dX11_copy_1 (by decide) ?_
    refine lv_aload_n hx hb dX11_copy_2 rfl (lv_at hl 1 rfl) ?_
    refine lv_iconst (v := 0) hx hb dX11_copy_3 (by decide) ?_
    refine lv_aload_n hx hb dX11_copy_4 rfl (lv_at hl 0 rfl) ?_
    refine pn_i (v := 12) hx hb hK hP hL_a0 hK_a0 hN_a0 (by decide) dX11_copy_5 ?_
    refine lv_aload_n hx hb dX11_copy_6 rfl (lv_at hl 1 rfl) ?_
    refine pn_i (v := 12) hx hb hK hP hL_a1 hK_a1 hN_a1 (by decide) dX11_copy_7 ?_
    refine va_mmin hx hb (hml.trans hl.1.symm) hown (hts _ (tw_c tw_1103)) (hts _ (tw_c tw_467)) (hts _ (tw_c tw_276)) (hts _ (tw_c tw_468)) (Nat.le_of_ble_eq_true rfl) (Nat.le_of_ble_eq_true rfl) (Nat.zero_le _) (Nat.zero_le _) dX11_copy_8 ?_
    refine lv_topi (fun x_1 ex_1 => ?_)
    have h_2 : rg x_1 12 12 := rg_of_eq ex_1 (rg_min2 (rg_k (12 : Int32) 12 rfl) (rg_k (12 : Int32) 12 rfl) (by decide))
    refine pc_i hx hb (hml.trans hl.1.symm) hown (hts _ (tw_c tw_1104)) (hts _ (tw_c tw_1105)) (hts _ (tw_c tw_1106)) (hts _ (tw_c tw_1107)) hK hP hD hS hL_a0 hK_a0 hN_a0 hL_a1 hK_a1 hN_a1 (rg_pos (rg_k (0 : Int32) 0 rfl) (by decide)) (rg_pos h_2 (by decide)) (rg_cp (rg_k (0 : Int32) 0 rfl) h_2 (by decide)) (rg_cl h_2 (by decide)) (Nat.le_of_ble_eq_true rfl) (Nat.le_of_ble_eq_true rfl) dX11_copy_11 (fun r_3 H locs er_3 hP hD hS => ?_)
    have hG := GX.cR hG hSH hT_a0 rfl hT_a1 rfl er_3 (by decide)
    subst hQ
    exact W.vret hx hb hr (fun t1 ht hW => ⟨⟨(σ, I, J, r_3, rj, rq), rfl, ⟨r_3, rfl, hG, (cpy_eq er_3 h_2 rfl), (fun q hq => by rw [er_3, va_up_ne _ _ hq]), (by rw [er_3, show (x_1).toNatClampNeg = 12 from by have z_i := clampE x_1; have z_r := h_2; have z_1 := z_r.1; have z_2 := z_r.2; omega]; rfl)⟩, by rw [ht]; exact hP, va_K.moved hW.alike hK, hD⟩, hS.F ht⟩) hS.2.2 dX11_copy_14
  exact go _ _ _ hP hD hS hl

set_option maxHeartbeats 4000000 in
set_option maxRecDepth 100000 in
theorem s_X11_copy_232_232 (l : Launch) (D : va_G) (t : pq_T) (σ : pq_S) (I : Nat → Nat → Int32) (J : Nat → Nat → Int64) (ri : Nat → Nat → Int32) (rj : Nat → Nat → Int64) (rq : Nat → Nat → Option Nat) (sz : Nat) (tg : Nat → Nat) (hSH : SH σ tg) (hG0 : GS tg σ I ri rq) (a0 : Nat) (a1 : Nat) (hL_a0 : a0 ∈ σ.1) (hK_a0 : σ.2.1 a0 = 13) (hN_a0 : σ.2.2.2 a0 = 12) (hT_a0 : tg a0 = 232) (hL_a1 : a1 ∈ σ.1) (hK_a1 : σ.2.1 a1 = 13) (hN_a1 : σ.2.2.2 a1 = 12) (hT_a1 : tg a1 = 232) : MetV l yX11_copy (wa yX11_copy cX11_copy 2 none) ({ frames := 1, cells := 0, slots := 0, locals := 60 }) [.ref a0, .ref a1] D t σ (I, J, ri, rj, rq) sz 0 0 (fun (u : pq_S × pq_M) => ∃ ri' : Nat → Nat → Int32, u = (σ, I, J, ri', rj, rq) ∧ GX [1232] tg σ I ri rj I ri' rj rq ∧ (∀ j, j < 12 → ri' a1 j = ri a0 j) ∧ (∀ q, q ≠ a1 → ri' q = ri q) ∧ (ri' = va_up ri a1 (va_cpy (ri a0) (ri a1) 0 0 12))) := by
  refine Met.ofW (cc := cX11_copy) (maxL := 2) (ret := none) (by decide) rfl ?_
  intro p e s m args below meth c s₁ B hml hv
  obtain ⟨rfl, hsz, hP, hK, hD0, hN⟩ := hv
  have hx := B.exec
  have hb := B.bytes
  have hr := B.returns
  have hts := atoms_spec (ws := (wa yX11_copy cX11_copy 2 none)) B.pre
  have hown : s.vm.findClass RX11 = some m.cls := findClass_of_methodNamed B.named
  have hlocks := B.notSynchronized
  subst hsz
  have hD : va_D (pq_B t σ (I, J, ri, rj, rq) s.heap.size) (pq_P t σ (I, J, ri, rj, rq)) := hD0.self
  generalize hAe : pq_B t σ (I, J, ri, rj, rq) s.heap.size = A at hD ⊢
  have hA : ∀ q : Nat, s.heap.size ≤ q → A q := fun q h => by rw [← hAe]; exact Or.inr h
  have hS : va_S A s.heap s.heap [] := va_S.rf
  have hG : GX [1232] tg σ I ri rj I ri rj rq := ⟨hG0, fun _ _ _ => rfl, fun _ _ _ _ _ => rfl, fun _ _ _ _ _ => rfl⟩
  have hl := lv_entry ([.ref a0, .ref a1]) (n := 2) (Nat.le_of_ble_eq_true rfl)
  rw [lg_entry_eq]
  generalize (lg_sl ([.ref a0, .ref a1]) ++ List.replicate (2 - (lg_sl ([.ref a0, .ref a1])).length) Slot.unset).toArray = ls at hl ⊢
  have hl : lv_has ls 2 [(0, .ref a0), (1, .ref a1)] := hl
  refine q_gen (fun Q hQ => ?_)
  have go : ∀ (H : Heap) (locs : List Loc) (ls : Array Slot), va_P D vwCl (pq_P t σ (I, J, ri, rj, rq)) H → va_D A (pq_P t σ (I, J, ri, rj, rq)) → va_S A s.heap H locs → lv_has ls 2 [(0, .ref a0), (1, .ref a1)] → W p l e ({ frames := 1, cells := 0, slots := 0, locals := 60 } : Room) s m (List.toArray ([.ref a0, .ref a1] : List Value)) below meth c H locs 0 0 Q (F0 m 0 ls []) := by
    intro H locs ls hP hD hS hl
    refine lv_aload_n hx hb dX11_copy_0 rfl (lv_at hl 0 rfl) ?_
    refine lv_iconst (v := 0) hx hb dX11_copy_1 (by decide) ?_
    refine lv_aload_n hx hb dX11_copy_2 rfl (lv_at hl 1 rfl) ?_
    refine lv_iconst (v := 0) hx hb dX11_copy_3 (by decide) ?_
    refine lv_aload_n hx hb dX11_copy_4 rfl (lv_at hl 0 rfl) ?_
    refine pn_i (v := 12) hx hb hK hP hL_a0 hK_a0 hN_a0 (by decide) dX11_copy_5 ?_
    refine lv_aload_n hx hb dX11_copy_6 rfl (lv_at hl 1 rfl) ?_
    refine pn_i (v := 12) hx hb hK hP hL_a1 hK_a1 hN_a1 (by decide) dX11_copy_7 ?_
    refine va_mmin hx hb (hml.trans hl.1.symm) hown (hts _ (tw_c tw_1103)) (hts _ (tw_c tw_467)) (hts _ (tw_c tw_276)) (hts _ (tw_c tw_468)) (Nat.le_of_ble_eq_true rfl) (Nat.le_of_ble_eq_true rfl) (Nat.zero_le _) (Nat.zero_le _) dX11_copy_8 ?_
    refine lv_topi (fun x_1 ex_1 => ?_)
    have h_2 : rg x_1 12 12 := rg_of_eq ex_1 (rg_min2 (rg_k (12 : Int32) 12 rfl) (rg_k (12 : Int32) 12 rfl) (by decide))
    refine pc_i hx hb (hml.trans hl.1.symm) hown (hts _ (tw_c tw_1104)) (hts _ (tw_c tw_1105)) (hts _ (tw_c tw_1106)) (hts _ (tw_c tw_1107)) hK hP hD hS hL_a0 hK_a0 hN_a0 hL_a1 hK_a1 hN_a1 (rg_pos (rg_k (0 : Int32) 0 rfl) (by decide)) (rg_pos h_2 (by decide)) (rg_cp (rg_k (0 : Int32) 0 rfl) h_2 (by decide)) (rg_cl h_2 (by decide)) (Nat.le_of_ble_eq_true rfl) (Nat.le_of_ble_eq_true rfl) dX11_copy_11 (fun r_3 H locs er_3 hP hD hS => ?_)
    have hG := GX.cR hG hSH hT_a0 rfl hT_a1 rfl er_3 (by decide)
    subst hQ
    exact W.vret hx hb hr (fun t1 ht hW => ⟨⟨(σ, I, J, r_3, rj, rq), rfl, ⟨r_3, rfl, hG, (cpy_eq er_3 h_2 rfl), (fun q hq => by rw [er_3, va_up_ne _ _ hq]), (by rw [er_3, show (x_1).toNatClampNeg = 12 from by have z_i := clampE x_1; have z_r := h_2; have z_1 := z_r.1; have z_2 := z_r.2; omega]; rfl)⟩, by rw [ht]; exact hP, va_K.moved hW.alike hK, hD⟩, hS.F ht⟩) hS.2.2 dX11_copy_14
  exact go _ _ _ hP hD hS hl

set_option maxHeartbeats 4000000 in
set_option maxRecDepth 100000 in
theorem s_X11_copy_233_233 (l : Launch) (D : va_G) (t : pq_T) (σ : pq_S) (I : Nat → Nat → Int32) (J : Nat → Nat → Int64) (ri : Nat → Nat → Int32) (rj : Nat → Nat → Int64) (rq : Nat → Nat → Option Nat) (sz : Nat) (tg : Nat → Nat) (hSH : SH σ tg) (hG0 : GS tg σ I ri rq) (a0 : Nat) (a1 : Nat) (hL_a0 : a0 ∈ σ.1) (hK_a0 : σ.2.1 a0 = 13) (hN_a0 : σ.2.2.2 a0 = 12) (hT_a0 : tg a0 = 233) (hL_a1 : a1 ∈ σ.1) (hK_a1 : σ.2.1 a1 = 13) (hN_a1 : σ.2.2.2 a1 = 12) (hT_a1 : tg a1 = 233) : MetV l yX11_copy (wa yX11_copy cX11_copy 2 none) ({ frames := 1, cells := 0, slots := 0, locals := 60 }) [.ref a0, .ref a1] D t σ (I, J, ri, rj, rq) sz 0 0 (fun (u : pq_S × pq_M) => ∃ ri' : Nat → Nat → Int32, u = (σ, I, J, ri', rj, rq) ∧ GX [1233] tg σ I ri rj I ri' rj rq ∧ (∀ j, j < 12 → ri' a1 j = ri a0 j) ∧ (∀ q, q ≠ a1 → ri' q = ri q) ∧ (ri' = va_up ri a1 (va_cpy (ri a0) (ri a1) 0 0 12))) := by
  refine Met.ofW (cc := cX11_copy) (maxL := 2) (ret := none) (by decide) rfl ?_
  intro p e s m args below meth c s₁ B hml hv
  obtain ⟨rfl, hsz, hP, hK, hD0, hN⟩ := hv
  have hx := B.exec
  have hb := B.bytes
  have hr := B.returns
  have hts := atoms_spec (ws := (wa yX11_copy cX11_copy 2 none)) B.pre
  have hown : s.vm.findClass RX11 = some m.cls := findClass_of_methodNamed B.named
  have hlocks := B.notSynchronized
  subst hsz
  have hD : va_D (pq_B t σ (I, J, ri, rj, rq) s.heap.size) (pq_P t σ (I, J, ri, rj, rq)) := hD0.self
  generalize hAe : pq_B t σ (I, J, ri, rj, rq) s.heap.size = A at hD ⊢
  have hA : ∀ q : Nat, s.heap.size ≤ q → A q := fun q h => by rw [← hAe]; exact Or.inr h
  have hS : va_S A s.heap s.heap [] := va_S.rf
  have hG : GX [1233] tg σ I ri rj I ri rj rq := ⟨hG0, fun _ _ _ => rfl, fun _ _ _ _ _ => rfl, fun _ _ _ _ _ => rfl⟩
  have hl := lv_entry ([.ref a0, .ref a1]) (n := 2) (Nat.le_of_ble_eq_true rfl)
  rw [lg_entry_eq]
  generalize (lg_sl ([.ref a0, .ref a1]) ++ List.replicate (2 - (lg_sl ([.ref a0, .ref a1])).length) Slot.unset).toArray = ls at hl ⊢
  have hl : lv_has ls 2 [(0, .ref a0), (1, .ref a1)] := hl
  refine q_gen (fun Q hQ => ?_)
  have go : ∀ (H : Heap) (locs : List Loc) (ls : Array Slot), va_P D vwCl (pq_P t σ (I, J, ri, rj, rq)) H → va_D A (pq_P t σ (I, J, ri, rj, rq)) → va_S A s.heap H locs → lv_has ls 2 [(0, .ref a0), (1, .ref a1)] → W p l e ({ frames := 1, cells := 0, slots := 0, locals := 60 } : Room) s m (List.toArray ([.ref a0, .ref a1] : List Value)) below meth c H locs 0 0 Q (F0 m 0 ls []) := by
    intro H locs ls hP hD hS hl
    refine lv_aload_n hx hb dX11_copy_0 rfl (lv_at hl 0 rfl) ?_
    refine lv_iconst (v := 0) hx hb dX11_copy_1 (by decide) ?_
    refine lv_aload_n hx hb dX11_copy_2 rfl (lv_at hl 1 rfl) ?_
    refine lv_iconst (v := 0) hx hb dX11_copy_3 (by decide) ?_
    refine lv_aload_n hx hb dX11_copy_4 rfl (lv_at hl 0 rfl) ?_
    refine pn_i (v := 12) hx hb hK hP hL_a0 hK_a0 hN_a0 (by decide) dX11_copy_5 ?_
    refine lv_aload_n hx hb dX11_copy_6 rfl (lv_at hl 1 rfl) ?_
    refine pn_i (v := 12) hx hb hK hP hL_a1 hK_a1 hN_a1 (by decide) dX11_copy_7 ?_
    refine va_mmin hx hb (hml.trans hl.1.symm) hown (hts _ (tw_c tw_1103)) (hts _ (tw_c tw_467)) (hts _ (tw_c tw_276)) (hts _ (tw_c tw_468)) (Nat.le_of_ble_eq_true rfl) (Nat.le_of_ble_eq_true rfl) (Nat.zero_le _) (Nat.zero_le _) dX11_copy_8 ?_
    refine lv_topi (fun x_1 ex_1 => ?_)
    have h_2 : rg x_1 12 12 := rg_of_eq ex_1 (rg_min2 (rg_k (12 : Int32) 12 rfl) (rg_k (12 : Int32) 12 rfl) (by decide))
    refine pc_i hx hb (hml.trans hl.1.symm) hown (hts _ (tw_c tw_1104)) (hts _ (tw_c tw_1105)) (hts _ (tw_c tw_1106)) (hts _ (tw_c tw_1107)) hK hP hD hS hL_a0 hK_a0 hN_a0 hL_a1 hK_a1 hN_a1 (rg_pos (rg_k (0 : Int32) 0 rfl) (by decide)) (rg_pos h_2 (by decide)) (rg_cp (rg_k (0 : Int32) 0 rfl) h_2 (by decide)) (rg_cl h_2 (by decide)) (Nat.le_of_ble_eq_true rfl) (Nat.le_of_ble_eq_true rfl) dX11_copy_11 (fun r_3 H locs er_3 hP hD hS => ?_)
    have hG := GX.cR hG hSH hT_a0 rfl hT_a1 rfl er_3 (by decide)
    subst hQ
    exact W.vret hx hb hr (fun t1 ht hW => ⟨⟨(σ, I, J, r_3, rj, rq), rfl, ⟨r_3, rfl, hG, (cpy_eq er_3 h_2 rfl), (fun q hq => by rw [er_3, va_up_ne _ _ hq]), (by rw [er_3, show (x_1).toNatClampNeg = 12 from by have z_i := clampE x_1; have z_r := h_2; have z_1 := z_r.1; have z_2 := z_r.2; omega]; rfl)⟩, by rw [ht]; exact hP, va_K.moved hW.alike hK, hD⟩, hS.F ht⟩) hS.2.2 dX11_copy_14
  exact go _ _ _ hP hD hS hl

set_option maxRecDepth 100000 in
def g_X7_copyFrom (nI : Nat → Int32) (nR : Nat → Nat → Int32) (I : Nat → Int32) (J : Nat → Int64) (ri : Nat → Nat → Int32) (rj : Nat → Nat → Int64) (rq : Nat → Nat → Option Nat) : vM := (ap1 (nI 224) fun (y_2 : Int32) => (ap1 (va_up I 224 (y_2)) fun (I_3 : Nat → Int32) => (ap1 (va_up ri 225 (va_cpy (nR 225) (ri 225) 0 0 200)) fun (ri_8 : Nat → Nat → Int32) => (ap1 (va_up ri_8 226 (va_cpy (nR 226) (ri_8 226) 0 0 200)) fun (ri_21 : Nat → Nat → Int32) => (ap1 (va_up ri_21 227 (va_cpy (nR 227) (ri_21 227) 0 0 200)) fun (ri_34 : Nat → Nat → Int32) => (ap1 (va_up ri_34 228 (va_cpy (nR 228) (ri_34 228) 0 0 200)) fun (ri_47 : Nat → Nat → Int32) => (ap1 (va_up ri_47 229 (va_cpy (nR 229) (ri_47 229) 0 0 12)) fun (ri_60 : Nat → Nat → Int32) => (ap1 (va_up ri_60 230 (va_cpy (nR 230) (ri_60 230) 0 0 12)) fun (ri_73 : Nat → Nat → Int32) => (ap1 (va_up ri_73 231 (va_cpy (nR 231) (ri_73 231) 0 0 12)) fun (ri_86 : Nat → Nat → Int32) => (ap1 (va_up ri_86 232 (va_cpy (nR 232) (ri_86 232) 0 0 12)) fun (ri_99 : Nat → Nat → Int32) => (ap1 (va_up ri_99 233 (va_cpy (nR 233) (ri_99 233) 0 0 12)) fun (ri_112 : Nat → Nat → Int32) => (ap1 (nI 234) fun (y_121 : Int32) => (ap1 (va_up I_3 234 (y_121)) fun (I_122 : Nat → Int32) => (ap1 (nI 235) fun (y_123 : Int32) => (ap1 (va_up I_122 235 (y_123)) fun (I_124 : Nat → Int32) => (ap1 (nI 236) fun (y_125 : Int32) => (ap1 (va_up I_124 236 (y_125)) fun (I_126 : Nat → Int32) => (ap1 (nI 237) fun (y_128 : Int32) => (ap1 (va_up I_126 237 (y_128)) fun (I_129 : Nat → Int32) => (ap1 (nI 238) fun (y_130 : Int32) => (ap1 (va_up I_129 238 (y_130)) fun (I_131 : Nat → Int32) => (I_131, J, ri_112, rj, rq))))))))))))))))))))))
set_option maxRecDepth 100000 in
theorem g_X7_copyFrom_e {nI : Nat → Int32} {nR : Nat → Nat → Int32} {I : Nat → Int32} {J : Nat → Int64} {ri : Nat → Nat → Int32} {rj : Nat → Nat → Int64} {rq : Nat → Nat → Option Nat} : g_X7_copyFrom nI nR I J ri rj rq = (ap1 (nI 224) fun (y_2 : Int32) => (ap1 (va_up I 224 (y_2)) fun (I_3 : Nat → Int32) => (ap1 (va_up ri 225 (va_cpy (nR 225) (ri 225) 0 0 200)) fun (ri_8 : Nat → Nat → Int32) => (ap1 (va_up ri_8 226 (va_cpy (nR 226) (ri_8 226) 0 0 200)) fun (ri_21 : Nat → Nat → Int32) => (ap1 (va_up ri_21 227 (va_cpy (nR 227) (ri_21 227) 0 0 200)) fun (ri_34 : Nat → Nat → Int32) => (ap1 (va_up ri_34 228 (va_cpy (nR 228) (ri_34 228) 0 0 200)) fun (ri_47 : Nat → Nat → Int32) => (ap1 (va_up ri_47 229 (va_cpy (nR 229) (ri_47 229) 0 0 12)) fun (ri_60 : Nat → Nat → Int32) => (ap1 (va_up ri_60 230 (va_cpy (nR 230) (ri_60 230) 0 0 12)) fun (ri_73 : Nat → Nat → Int32) => (ap1 (va_up ri_73 231 (va_cpy (nR 231) (ri_73 231) 0 0 12)) fun (ri_86 : Nat → Nat → Int32) => (ap1 (va_up ri_86 232 (va_cpy (nR 232) (ri_86 232) 0 0 12)) fun (ri_99 : Nat → Nat → Int32) => (ap1 (va_up ri_99 233 (va_cpy (nR 233) (ri_99 233) 0 0 12)) fun (ri_112 : Nat → Nat → Int32) => (ap1 (nI 234) fun (y_121 : Int32) => (ap1 (va_up I_3 234 (y_121)) fun (I_122 : Nat → Int32) => (ap1 (nI 235) fun (y_123 : Int32) => (ap1 (va_up I_122 235 (y_123)) fun (I_124 : Nat → Int32) => (ap1 (nI 236) fun (y_125 : Int32) => (ap1 (va_up I_124 236 (y_125)) fun (I_126 : Nat → Int32) => (ap1 (nI 237) fun (y_128 : Int32) => (ap1 (va_up I_126 237 (y_128)) fun (I_129 : Nat → Int32) => (ap1 (nI 238) fun (y_130 : Int32) => (ap1 (va_up I_129 238 (y_130)) fun (I_131 : Nat → Int32) => (I_131, J, ri_112, rj, rq)))))))))))))))))))))) := rfl
set_option maxHeartbeats 4000000 in
set_option maxRecDepth 100000 in
theorem s_X7_copyFrom (l : Launch) (D : va_G) (t : pq_T) (σ : pq_S) (I : Nat → Nat → Int32) (J : Nat → Nat → Int64) (ri : Nat → Nat → Int32) (rj : Nat → Nat → Int64) (rq : Nat → Nat → Option Nat) (sz : Nat) (tg : Nat → Nat) (hSH : SH σ tg) (hG0 : GS tg σ I ri rq) (this : Nat) (a0 : Nat) (hL_this : this ∈ σ.1) (hK_this : σ.2.1 this = 7) (hL_a0 : a0 ∈ σ.1) (hK_a0 : σ.2.1 a0 = 7) (M : Nat) (hL_M : M ∈ σ.1) (hK_M : σ.2.1 M = 10) (N : Nat) (hL_N : N ∈ σ.1) (hK_N : σ.2.1 N = 10) (hO_this : this = vo σ 7 M) (hO_a0 : a0 = vo σ 7 N) (hap : AP 10 tg σ M N) : MetV l yX7_copyFrom (wa yX7_copyFrom cX7_copyFrom 2 none) ({ frames := 2, cells := 0, slots := 0, locals := 81 }) [.ref this, .ref a0] D t σ (I, J, ri, rj, rq) sz 0 0 (fun (u : pq_S × pq_M) => ∃ I' : Nat → Nat → Int32, ∃ ri' : Nat → Nat → Int32, u = (σ, I', J, ri', rj, rq) ∧ GX [224, 1225, 1226, 1227, 1228, 1229, 1230, 1231, 1232, 1233, 234, 235, 236, 237, 238] tg σ I ri rj I' ri' rj rq ∧ g_X7_copyFrom (vI 10 σ N I) (vR 10 σ N ri) (vI 10 σ M I) (vJ 10 σ M J) (vR 10 σ M ri) (vL 10 σ M rj) (vQ 10 σ M rq) = ((vI 10 σ M I'), (vJ 10 σ M J), (vR 10 σ M ri'), (vL 10 σ M rj), (vQ 10 σ M rq)) ∧ FR 10 tg σ M (I, J, ri, rj, rq) (I', J, ri', rj, rq)) := by
  refine Met.ofW (cc := cX7_copyFrom) (maxL := 2) (ret := none) (by decide) rfl ?_
  intro p e s m args below meth c s₁ B hml hv
  obtain ⟨rfl, hsz, hP, hK, hD0, hN⟩ := hv
  have hx := B.exec
  have hb := B.bytes
  have hr := B.returns
  have hts := atoms_spec (ws := (wa yX7_copyFrom cX7_copyFrom 2 none)) B.pre
  have hown : s.vm.findClass RX7 = some m.cls := findClass_of_methodNamed B.named
  have hlocks := B.notSynchronized
  subst hsz
  have hD : va_D (pq_B t σ (I, J, ri, rj, rq) s.heap.size) (pq_P t σ (I, J, ri, rj, rq)) := hD0.self
  generalize hAe : pq_B t σ (I, J, ri, rj, rq) s.heap.size = A at hD ⊢
  have hA : ∀ q : Nat, s.heap.size ≤ q → A q := fun q h => by rw [← hAe]; exact Or.inr h
  have hS : va_S A s.heap s.heap [] := va_S.rf
  have hG : GX [224, 1225, 1226, 1227, 1228, 1229, 1230, 1231, 1232, 1233, 234, 235, 236, 237, 238] tg σ I ri rj I ri rj rq := ⟨hG0, fun _ _ _ => rfl, fun _ _ _ _ _ => rfl, fun _ _ _ _ _ => rfl⟩
  have hl := lv_entry ([.ref this, .ref a0]) (n := 2) (Nat.le_of_ble_eq_true rfl)
  rw [lg_entry_eq]
  generalize (lg_sl ([.ref this, .ref a0]) ++ List.replicate (2 - (lg_sl ([.ref this, .ref a0])).length) Slot.unset).toArray = ls at hl ⊢
  have hl : lv_has ls 2 [(0, .ref this), (1, .ref a0)] := hl
  refine q_gen (fun Q hQ => ?_)
  have go : ∀ (H : Heap) (locs : List Loc) (ls : Array Slot), va_P D vwCl (pq_P t σ (I, J, ri, rj, rq)) H → va_D A (pq_P t σ (I, J, ri, rj, rq)) → va_S A s.heap H locs → lv_has ls 2 [(0, .ref this), (1, .ref a0)] → W p l e ({ frames := 2, cells := 0, slots := 0, locals := 81 } : Room) s m (List.toArray ([.ref this, .ref a0] : List Value)) below meth c H locs 0 0 Q (F0 m 0 ls []) := by
    intro H locs ls hP hD hS hl
    have hVT : VT 10 σ tg M := vt_10 hSH hL_M hK_M
    have hFr : FR 10 tg σ M (I, J, ri, rj, rq) (I, J, ri, rj, rq) := fr_rf
    obtain ⟨F, hF0⟩ : ∃ F, F = g_X7_copyFrom (vI 10 σ N I) (vR 10 σ N ri) (vI 10 σ M I) (vJ 10 σ M J) (vR 10 σ M ri) (vL 10 σ M rj) (vQ 10 σ M rq) := ⟨_, rfl⟩
    have hF := hF0.trans g_X7_copyFrom_e
    refine lv_aload_n hx hb dX7_copyFrom_0 rfl (lv_at hl 0 rfl) ?_
    refine lv_aload_n hx hb dX7_copyFrom_1 rfl (lv_at hl 1 rfl) ?_
    refine pg_f (v := .int (I 224 a0)) (C := RX7) (T := TX7) (N := 15) hx hb hts (tw_i inlX7) hown hK hP hL_a0 hK_a0 (by decide) rfl 0 (by decide) (hts _ (tw_c tw_254)) rfl dX7_copyFrom_2 ?_
    have h_1 : rg (I 224 a0) 0 200 := GX.rI hG 224 rfl
    replace hF := hF.trans (ap_n (cI_e (f := 224) hFr hap hO_a0 (by decide)))
    refine pp_i (v := (I 224 a0)) (ty := .int) (C := RX7) (T := TX7) (N := 15) hx hb hts (tw_i inlX7) tyX7 tyX7_ok nmX7 hown hK hP hD hS hL_this hK_this (by decide) rfl 0 224 (by decide) (hts _ (tw_c tw_254)) rfl (tyX7_ok 0 (by decide)) rfl rfl (Nat.le_of_ble_eq_true rfl) (ps_224 _ _ _ _ _) dX7_copyFrom_5 (fun I_3 H locs eI_3 hP hD hS => ?_)
    replace hFr := fr_I (f := 224) hFr hO_this (by decide) eI_3
    replace hF := hF.trans (ap_n (vI_st (f := 224) hO_this (by decide) eI_3))
    have hG := GX.wI hG 224 rfl eI_3 (rg_w h_1 (by decide)) (by decide)
    refine lv_aload_n hx hb dX7_copyFrom_8 rfl (lv_at hl 1 rfl) ?_
    obtain ⟨w_4, hR_w_4, hL_w_4, hK_w_4, hN_w_4, hT_w_4⟩ := sh_a hSH 225 (ci := 7) (kd := 13) (len := 200) rfl (by decide) hL_a0 hK_a0
    have hO_w_4 : w_4 = vrow σ 225 N := vo_k (c := 7) hO_a0 hR_w_4
    refine pg_f (v := .ref w_4) (C := RX7) (T := TX7) (N := 15) hx hb hts (tw_i inlX7) hown hK hP hL_a0 hK_a0 (by decide) rfl 1 (by decide) (hts _ (tw_c tw_61)) (pq_hv rfl hR_w_4) dX7_copyFrom_9 ?_
    refine lv_aload_n hx hb dX7_copyFrom_12 rfl (lv_at hl 0 rfl) ?_
    obtain ⟨w_5, hR_w_5, hL_w_5, hK_w_5, hN_w_5, hT_w_5⟩ := sh_a hSH 225 (ci := 7) (kd := 13) (len := 200) rfl (by decide) hL_this hK_this
    have hO_w_5 : w_5 = vrow σ 225 M := vo_k (c := 7) hO_this hR_w_5
    refine pg_f (v := .ref w_5) (C := RX7) (T := TX7) (N := 15) hx hb hts (tw_i inlX7) hown hK hP hL_this hK_this (by decide) rfl 1 (by decide) (hts _ (tw_c tw_61)) (pq_hv rfl hR_w_5) dX7_copyFrom_13 ?_
    refine pk_v (va_runSN (As := [.ref w_4, .ref w_5]) (rest := []) ⟨hx, hb, hml, hown, hts⟩ (s_X11_copy_225_225 l D t σ I_3 J ri rj rq H.size tg hSH hG.1 w_4 w_5 hL_w_4 hK_w_4 hN_w_4 hT_w_4 hL_w_5 hK_w_5 hN_w_5 hT_w_5) ⟨va_cnB (host := "RingsUnder") 2 hts (tw_W tw_1102) rfl rfl rfl (nl_18 hN) (hts _ (tw_c tw_2)) cd_yX11_copy_2 ⟨Nat.le_of_ble_eq_true rfl, Nat.le_of_ble_eq_true rfl⟩, hts (.static yX11_copy) (tw_c tq_static_yX11_copy), trivial⟩ ⟨pq_blind, pq_pre hK hN hP hD⟩ rfl rfl hl.1 rfl (lv_room (Nat.le_of_ble_eq_true rfl)) dX7_copyFrom_16 ⟨Nat.le_of_ble_eq_true rfl, Nat.le_of_ble_eq_true rfl⟩) hD hS hA (fun σ1 μ1 H locs hw_7 hP hD hS => ?_)
    obtain ⟨ri_8, hu_9, hg_10, hp_12, hp_13, hp_14⟩ := hw_7
    obtain ⟨hu_9a, hu_9b⟩ := Prod.mk.inj hu_9
    rw [hu_9a, hu_9b] at hP hD
    replace hF := hF.trans (ap_n (vR_cp hVT hO_w_5 (by decide) (funext fun _ => (cR_r hFr hap hO_w_4 (by decide) rfl)) hp_14))
    replace hFr := fr_R hFr hO_w_5 (by decide) hp_14
    have hG := GX.tr hG hg_10 (by decide)
    refine lv_aload_n hx hb dX7_copyFrom_19 rfl (lv_at hl 1 rfl) ?_
    obtain ⟨w_17, hR_w_17, hL_w_17, hK_w_17, hN_w_17, hT_w_17⟩ := sh_a hSH 226 (ci := 7) (kd := 13) (len := 200) rfl (by decide) hL_a0 hK_a0
    have hO_w_17 : w_17 = vrow σ 226 N := vo_k (c := 7) hO_a0 hR_w_17
    refine pg_f (v := .ref w_17) (C := RX7) (T := TX7) (N := 15) hx hb hts (tw_i inlX7) hown hK hP hL_a0 hK_a0 (by decide) rfl 2 (by decide) (hts _ (tw_c tw_62)) (pq_hv rfl hR_w_17) dX7_copyFrom_20 ?_
    refine lv_aload_n hx hb dX7_copyFrom_23 rfl (lv_at hl 0 rfl) ?_
    obtain ⟨w_18, hR_w_18, hL_w_18, hK_w_18, hN_w_18, hT_w_18⟩ := sh_a hSH 226 (ci := 7) (kd := 13) (len := 200) rfl (by decide) hL_this hK_this
    have hO_w_18 : w_18 = vrow σ 226 M := vo_k (c := 7) hO_this hR_w_18
    refine pg_f (v := .ref w_18) (C := RX7) (T := TX7) (N := 15) hx hb hts (tw_i inlX7) hown hK hP hL_this hK_this (by decide) rfl 2 (by decide) (hts _ (tw_c tw_62)) (pq_hv rfl hR_w_18) dX7_copyFrom_24 ?_
    refine pk_v (va_runSN (As := [.ref w_17, .ref w_18]) (rest := []) ⟨hx, hb, hml, hown, hts⟩ (s_X11_copy_226_226 l D t σ I_3 J ri_8 rj rq H.size tg hSH hG.1 w_17 w_18 hL_w_17 hK_w_17 hN_w_17 hT_w_17 hL_w_18 hK_w_18 hN_w_18 hT_w_18) ⟨va_cnB (host := "RingsUnder") 2 hts (tw_W tw_1102) rfl rfl rfl (nl_18 hN) (hts _ (tw_c tw_2)) cd_yX11_copy_2 ⟨Nat.le_of_ble_eq_true rfl, Nat.le_of_ble_eq_true rfl⟩, hts (.static yX11_copy) (tw_c tq_static_yX11_copy), trivial⟩ ⟨pq_blind, pq_pre hK hN hP hD⟩ rfl rfl hl.1 rfl (lv_room (Nat.le_of_ble_eq_true rfl)) dX7_copyFrom_27 ⟨Nat.le_of_ble_eq_true rfl, Nat.le_of_ble_eq_true rfl⟩) hD hS hA (fun σ1 μ1 H locs hw_20 hP hD hS => ?_)
    obtain ⟨ri_21, hu_22, hg_23, hp_25, hp_26, hp_27⟩ := hw_20
    obtain ⟨hu_22a, hu_22b⟩ := Prod.mk.inj hu_22
    rw [hu_22a, hu_22b] at hP hD
    replace hF := hF.trans (ap_n (vR_cp hVT hO_w_18 (by decide) (funext fun _ => (cR_r hFr hap hO_w_17 (by decide) rfl)) hp_27))
    replace hFr := fr_R hFr hO_w_18 (by decide) hp_27
    have hG := GX.tr hG hg_23 (by decide)
    refine lv_aload_n hx hb dX7_copyFrom_30 rfl (lv_at hl 1 rfl) ?_
    obtain ⟨w_30, hR_w_30, hL_w_30, hK_w_30, hN_w_30, hT_w_30⟩ := sh_a hSH 227 (ci := 7) (kd := 13) (len := 200) rfl (by decide) hL_a0 hK_a0
    have hO_w_30 : w_30 = vrow σ 227 N := vo_k (c := 7) hO_a0 hR_w_30
    refine pg_f (v := .ref w_30) (C := RX7) (T := TX7) (N := 15) hx hb hts (tw_i inlX7) hown hK hP hL_a0 hK_a0 (by decide) rfl 3 (by decide) (hts _ (tw_c tw_63)) (pq_hv rfl hR_w_30) dX7_copyFrom_31 ?_
    refine lv_aload_n hx hb dX7_copyFrom_34 rfl (lv_at hl 0 rfl) ?_
    obtain ⟨w_31, hR_w_31, hL_w_31, hK_w_31, hN_w_31, hT_w_31⟩ := sh_a hSH 227 (ci := 7) (kd := 13) (len := 200) rfl (by decide) hL_this hK_this
    have hO_w_31 : w_31 = vrow σ 227 M := vo_k (c := 7) hO_this hR_w_31
    refine pg_f (v := .ref w_31) (C := RX7) (T := TX7) (N := 15) hx hb hts (tw_i inlX7) hown hK hP hL_this hK_this (by decide) rfl 3 (by decide) (hts _ (tw_c tw_63)) (pq_hv rfl hR_w_31) dX7_copyFrom_35 ?_
    refine pk_v (va_runSN (As := [.ref w_30, .ref w_31]) (rest := []) ⟨hx, hb, hml, hown, hts⟩ (s_X11_copy_227_227 l D t σ I_3 J ri_21 rj rq H.size tg hSH hG.1 w_30 w_31 hL_w_30 hK_w_30 hN_w_30 hT_w_30 hL_w_31 hK_w_31 hN_w_31 hT_w_31) ⟨va_cnB (host := "RingsUnder") 2 hts (tw_W tw_1102) rfl rfl rfl (nl_18 hN) (hts _ (tw_c tw_2)) cd_yX11_copy_2 ⟨Nat.le_of_ble_eq_true rfl, Nat.le_of_ble_eq_true rfl⟩, hts (.static yX11_copy) (tw_c tq_static_yX11_copy), trivial⟩ ⟨pq_blind, pq_pre hK hN hP hD⟩ rfl rfl hl.1 rfl (lv_room (Nat.le_of_ble_eq_true rfl)) dX7_copyFrom_38 ⟨Nat.le_of_ble_eq_true rfl, Nat.le_of_ble_eq_true rfl⟩) hD hS hA (fun σ1 μ1 H locs hw_33 hP hD hS => ?_)
    obtain ⟨ri_34, hu_35, hg_36, hp_38, hp_39, hp_40⟩ := hw_33
    obtain ⟨hu_35a, hu_35b⟩ := Prod.mk.inj hu_35
    rw [hu_35a, hu_35b] at hP hD
    replace hF := hF.trans (ap_n (vR_cp hVT hO_w_31 (by decide) (funext fun _ => (cR_r hFr hap hO_w_30 (by decide) rfl)) hp_40))
    replace hFr := fr_R hFr hO_w_31 (by decide) hp_40
    have hG := GX.tr hG hg_36 (by decide)
    refine lv_aload_n hx hb dX7_copyFrom_41 rfl (lv_at hl 1 rfl) ?_
    obtain ⟨w_43, hR_w_43, hL_w_43, hK_w_43, hN_w_43, hT_w_43⟩ := sh_a hSH 228 (ci := 7) (kd := 13) (len := 200) rfl (by decide) hL_a0 hK_a0
    have hO_w_43 : w_43 = vrow σ 228 N := vo_k (c := 7) hO_a0 hR_w_43
    refine pg_f (v := .ref w_43) (C := RX7) (T := TX7) (N := 15) hx hb hts (tw_i inlX7) hown hK hP hL_a0 hK_a0 (by decide) rfl 4 (by decide) (hts _ (tw_c tw_64)) (pq_hv rfl hR_w_43) dX7_copyFrom_42 ?_
    refine lv_aload_n hx hb dX7_copyFrom_45 rfl (lv_at hl 0 rfl) ?_
    obtain ⟨w_44, hR_w_44, hL_w_44, hK_w_44, hN_w_44, hT_w_44⟩ := sh_a hSH 228 (ci := 7) (kd := 13) (len := 200) rfl (by decide) hL_this hK_this
    have hO_w_44 : w_44 = vrow σ 228 M := vo_k (c := 7) hO_this hR_w_44
    refine pg_f (v := .ref w_44) (C := RX7) (T := TX7) (N := 15) hx hb hts (tw_i inlX7) hown hK hP hL_this hK_this (by decide) rfl 4 (by decide) (hts _ (tw_c tw_64)) (pq_hv rfl hR_w_44) dX7_copyFrom_46 ?_
    refine pk_v (va_runSN (As := [.ref w_43, .ref w_44]) (rest := []) ⟨hx, hb, hml, hown, hts⟩ (s_X11_copy_228_228 l D t σ I_3 J ri_34 rj rq H.size tg hSH hG.1 w_43 w_44 hL_w_43 hK_w_43 hN_w_43 hT_w_43 hL_w_44 hK_w_44 hN_w_44 hT_w_44) ⟨va_cnB (host := "RingsUnder") 2 hts (tw_W tw_1102) rfl rfl rfl (nl_18 hN) (hts _ (tw_c tw_2)) cd_yX11_copy_2 ⟨Nat.le_of_ble_eq_true rfl, Nat.le_of_ble_eq_true rfl⟩, hts (.static yX11_copy) (tw_c tq_static_yX11_copy), trivial⟩ ⟨pq_blind, pq_pre hK hN hP hD⟩ rfl rfl hl.1 rfl (lv_room (Nat.le_of_ble_eq_true rfl)) dX7_copyFrom_49 ⟨Nat.le_of_ble_eq_true rfl, Nat.le_of_ble_eq_true rfl⟩) hD hS hA (fun σ1 μ1 H locs hw_46 hP hD hS => ?_)
    obtain ⟨ri_47, hu_48, hg_49, hp_51, hp_52, hp_53⟩ := hw_46
    obtain ⟨hu_48a, hu_48b⟩ := Prod.mk.inj hu_48
    rw [hu_48a, hu_48b] at hP hD
    replace hF := hF.trans (ap_n (vR_cp hVT hO_w_44 (by decide) (funext fun _ => (cR_r hFr hap hO_w_43 (by decide) rfl)) hp_53))
    replace hFr := fr_R hFr hO_w_44 (by decide) hp_53
    have hG := GX.tr hG hg_49 (by decide)
    refine lv_aload_n hx hb dX7_copyFrom_52 rfl (lv_at hl 1 rfl) ?_
    obtain ⟨w_56, hR_w_56, hL_w_56, hK_w_56, hN_w_56, hT_w_56⟩ := sh_a hSH 229 (ci := 7) (kd := 13) (len := 12) rfl (by decide) hL_a0 hK_a0
    have hO_w_56 : w_56 = vrow σ 229 N := vo_k (c := 7) hO_a0 hR_w_56
    refine pg_f (v := .ref w_56) (C := RX7) (T := TX7) (N := 15) hx hb hts (tw_i inlX7) hown hK hP hL_a0 hK_a0 (by decide) rfl 5 (by decide) (hts _ (tw_c tw_65)) (pq_hv rfl hR_w_56) dX7_copyFrom_53 ?_
    refine lv_aload_n hx hb dX7_copyFrom_56 rfl (lv_at hl 0 rfl) ?_
    obtain ⟨w_57, hR_w_57, hL_w_57, hK_w_57, hN_w_57, hT_w_57⟩ := sh_a hSH 229 (ci := 7) (kd := 13) (len := 12) rfl (by decide) hL_this hK_this
    have hO_w_57 : w_57 = vrow σ 229 M := vo_k (c := 7) hO_this hR_w_57
    refine pg_f (v := .ref w_57) (C := RX7) (T := TX7) (N := 15) hx hb hts (tw_i inlX7) hown hK hP hL_this hK_this (by decide) rfl 5 (by decide) (hts _ (tw_c tw_65)) (pq_hv rfl hR_w_57) dX7_copyFrom_57 ?_
    refine pk_v (va_runSN (As := [.ref w_56, .ref w_57]) (rest := []) ⟨hx, hb, hml, hown, hts⟩ (s_X11_copy_229_229 l D t σ I_3 J ri_47 rj rq H.size tg hSH hG.1 w_56 w_57 hL_w_56 hK_w_56 hN_w_56 hT_w_56 hL_w_57 hK_w_57 hN_w_57 hT_w_57) ⟨va_cnB (host := "RingsUnder") 2 hts (tw_W tw_1102) rfl rfl rfl (nl_18 hN) (hts _ (tw_c tw_2)) cd_yX11_copy_2 ⟨Nat.le_of_ble_eq_true rfl, Nat.le_of_ble_eq_true rfl⟩, hts (.static yX11_copy) (tw_c tq_static_yX11_copy), trivial⟩ ⟨pq_blind, pq_pre hK hN hP hD⟩ rfl rfl hl.1 rfl (lv_room (Nat.le_of_ble_eq_true rfl)) dX7_copyFrom_60 ⟨Nat.le_of_ble_eq_true rfl, Nat.le_of_ble_eq_true rfl⟩) hD hS hA (fun σ1 μ1 H locs hw_59 hP hD hS => ?_)
    obtain ⟨ri_60, hu_61, hg_62, hp_64, hp_65, hp_66⟩ := hw_59
    obtain ⟨hu_61a, hu_61b⟩ := Prod.mk.inj hu_61
    rw [hu_61a, hu_61b] at hP hD
    replace hF := hF.trans (ap_n (vR_cp hVT hO_w_57 (by decide) (funext fun _ => (cR_r hFr hap hO_w_56 (by decide) rfl)) hp_66))
    replace hFr := fr_R hFr hO_w_57 (by decide) hp_66
    have hG := GX.tr hG hg_62 (by decide)
    refine lv_aload_n hx hb dX7_copyFrom_63 rfl (lv_at hl 1 rfl) ?_
    obtain ⟨w_69, hR_w_69, hL_w_69, hK_w_69, hN_w_69, hT_w_69⟩ := sh_a hSH 230 (ci := 7) (kd := 13) (len := 12) rfl (by decide) hL_a0 hK_a0
    have hO_w_69 : w_69 = vrow σ 230 N := vo_k (c := 7) hO_a0 hR_w_69
    refine pg_f (v := .ref w_69) (C := RX7) (T := TX7) (N := 15) hx hb hts (tw_i inlX7) hown hK hP hL_a0 hK_a0 (by decide) rfl 6 (by decide) (hts _ (tw_c tw_66)) (pq_hv rfl hR_w_69) dX7_copyFrom_64 ?_
    refine lv_aload_n hx hb dX7_copyFrom_67 rfl (lv_at hl 0 rfl) ?_
    obtain ⟨w_70, hR_w_70, hL_w_70, hK_w_70, hN_w_70, hT_w_70⟩ := sh_a hSH 230 (ci := 7) (kd := 13) (len := 12) rfl (by decide) hL_this hK_this
    have hO_w_70 : w_70 = vrow σ 230 M := vo_k (c := 7) hO_this hR_w_70
    refine pg_f (v := .ref w_70) (C := RX7) (T := TX7) (N := 15) hx hb hts (tw_i inlX7) hown hK hP hL_this hK_this (by decide) rfl 6 (by decide) (hts _ (tw_c tw_66)) (pq_hv rfl hR_w_70) dX7_copyFrom_68 ?_
    refine pk_v (va_runSN (As := [.ref w_69, .ref w_70]) (rest := []) ⟨hx, hb, hml, hown, hts⟩ (s_X11_copy_230_230 l D t σ I_3 J ri_60 rj rq H.size tg hSH hG.1 w_69 w_70 hL_w_69 hK_w_69 hN_w_69 hT_w_69 hL_w_70 hK_w_70 hN_w_70 hT_w_70) ⟨va_cnB (host := "RingsUnder") 2 hts (tw_W tw_1102) rfl rfl rfl (nl_18 hN) (hts _ (tw_c tw_2)) cd_yX11_copy_2 ⟨Nat.le_of_ble_eq_true rfl, Nat.le_of_ble_eq_true rfl⟩, hts (.static yX11_copy) (tw_c tq_static_yX11_copy), trivial⟩ ⟨pq_blind, pq_pre hK hN hP hD⟩ rfl rfl hl.1 rfl (lv_room (Nat.le_of_ble_eq_true rfl)) dX7_copyFrom_71 ⟨Nat.le_of_ble_eq_true rfl, Nat.le_of_ble_eq_true rfl⟩) hD hS hA (fun σ1 μ1 H locs hw_72 hP hD hS => ?_)
    obtain ⟨ri_73, hu_74, hg_75, hp_77, hp_78, hp_79⟩ := hw_72
    obtain ⟨hu_74a, hu_74b⟩ := Prod.mk.inj hu_74
    rw [hu_74a, hu_74b] at hP hD
    replace hF := hF.trans (ap_n (vR_cp hVT hO_w_70 (by decide) (funext fun _ => (cR_r hFr hap hO_w_69 (by decide) rfl)) hp_79))
    replace hFr := fr_R hFr hO_w_70 (by decide) hp_79
    have hG := GX.tr hG hg_75 (by decide)
    refine lv_aload_n hx hb dX7_copyFrom_74 rfl (lv_at hl 1 rfl) ?_
    obtain ⟨w_82, hR_w_82, hL_w_82, hK_w_82, hN_w_82, hT_w_82⟩ := sh_a hSH 231 (ci := 7) (kd := 13) (len := 12) rfl (by decide) hL_a0 hK_a0
    have hO_w_82 : w_82 = vrow σ 231 N := vo_k (c := 7) hO_a0 hR_w_82
    refine pg_f (v := .ref w_82) (C := RX7) (T := TX7) (N := 15) hx hb hts (tw_i inlX7) hown hK hP hL_a0 hK_a0 (by decide) rfl 7 (by decide) (hts _ (tw_c tw_67)) (pq_hv rfl hR_w_82) dX7_copyFrom_75 ?_
    refine lv_aload_n hx hb dX7_copyFrom_78 rfl (lv_at hl 0 rfl) ?_
    obtain ⟨w_83, hR_w_83, hL_w_83, hK_w_83, hN_w_83, hT_w_83⟩ := sh_a hSH 231 (ci := 7) (kd := 13) (len := 12) rfl (by decide) hL_this hK_this
    have hO_w_83 : w_83 = vrow σ 231 M := vo_k (c := 7) hO_this hR_w_83
    refine pg_f (v := .ref w_83) (C := RX7) (T := TX7) (N := 15) hx hb hts (tw_i inlX7) hown hK hP hL_this hK_this (by decide) rfl 7 (by decide) (hts _ (tw_c tw_67)) (pq_hv rfl hR_w_83) dX7_copyFrom_79 ?_
    refine pk_v (va_runSN (As := [.ref w_82, .ref w_83]) (rest := []) ⟨hx, hb, hml, hown, hts⟩ (s_X11_copy_231_231 l D t σ I_3 J ri_73 rj rq H.size tg hSH hG.1 w_82 w_83 hL_w_82 hK_w_82 hN_w_82 hT_w_82 hL_w_83 hK_w_83 hN_w_83 hT_w_83) ⟨va_cnB (host := "RingsUnder") 2 hts (tw_W tw_1102) rfl rfl rfl (nl_18 hN) (hts _ (tw_c tw_2)) cd_yX11_copy_2 ⟨Nat.le_of_ble_eq_true rfl, Nat.le_of_ble_eq_true rfl⟩, hts (.static yX11_copy) (tw_c tq_static_yX11_copy), trivial⟩ ⟨pq_blind, pq_pre hK hN hP hD⟩ rfl rfl hl.1 rfl (lv_room (Nat.le_of_ble_eq_true rfl)) dX7_copyFrom_82 ⟨Nat.le_of_ble_eq_true rfl, Nat.le_of_ble_eq_true rfl⟩) hD hS hA (fun σ1 μ1 H locs hw_85 hP hD hS => ?_)
    obtain ⟨ri_86, hu_87, hg_88, hp_90, hp_91, hp_92⟩ := hw_85
    obtain ⟨hu_87a, hu_87b⟩ := Prod.mk.inj hu_87
    rw [hu_87a, hu_87b] at hP hD
    replace hF := hF.trans (ap_n (vR_cp hVT hO_w_83 (by decide) (funext fun _ => (cR_r hFr hap hO_w_82 (by decide) rfl)) hp_92))
    replace hFr := fr_R hFr hO_w_83 (by decide) hp_92
    have hG := GX.tr hG hg_88 (by decide)
    refine lv_aload_n hx hb dX7_copyFrom_85 rfl (lv_at hl 1 rfl) ?_
    obtain ⟨w_95, hR_w_95, hL_w_95, hK_w_95, hN_w_95, hT_w_95⟩ := sh_a hSH 232 (ci := 7) (kd := 13) (len := 12) rfl (by decide) hL_a0 hK_a0
    have hO_w_95 : w_95 = vrow σ 232 N := vo_k (c := 7) hO_a0 hR_w_95
    refine pg_f (v := .ref w_95) (C := RX7) (T := TX7) (N := 15) hx hb hts (tw_i inlX7) hown hK hP hL_a0 hK_a0 (by decide) rfl 8 (by decide) (hts _ (tw_c tw_68)) (pq_hv rfl hR_w_95) dX7_copyFrom_86 ?_
    refine lv_aload_n hx hb dX7_copyFrom_89 rfl (lv_at hl 0 rfl) ?_
    obtain ⟨w_96, hR_w_96, hL_w_96, hK_w_96, hN_w_96, hT_w_96⟩ := sh_a hSH 232 (ci := 7) (kd := 13) (len := 12) rfl (by decide) hL_this hK_this
    have hO_w_96 : w_96 = vrow σ 232 M := vo_k (c := 7) hO_this hR_w_96
    refine pg_f (v := .ref w_96) (C := RX7) (T := TX7) (N := 15) hx hb hts (tw_i inlX7) hown hK hP hL_this hK_this (by decide) rfl 8 (by decide) (hts _ (tw_c tw_68)) (pq_hv rfl hR_w_96) dX7_copyFrom_90 ?_
    refine pk_v (va_runSN (As := [.ref w_95, .ref w_96]) (rest := []) ⟨hx, hb, hml, hown, hts⟩ (s_X11_copy_232_232 l D t σ I_3 J ri_86 rj rq H.size tg hSH hG.1 w_95 w_96 hL_w_95 hK_w_95 hN_w_95 hT_w_95 hL_w_96 hK_w_96 hN_w_96 hT_w_96) ⟨va_cnB (host := "RingsUnder") 2 hts (tw_W tw_1102) rfl rfl rfl (nl_18 hN) (hts _ (tw_c tw_2)) cd_yX11_copy_2 ⟨Nat.le_of_ble_eq_true rfl, Nat.le_of_ble_eq_true rfl⟩, hts (.static yX11_copy) (tw_c tq_static_yX11_copy), trivial⟩ ⟨pq_blind, pq_pre hK hN hP hD⟩ rfl rfl hl.1 rfl (lv_room (Nat.le_of_ble_eq_true rfl)) dX7_copyFrom_93 ⟨Nat.le_of_ble_eq_true rfl, Nat.le_of_ble_eq_true rfl⟩) hD hS hA (fun σ1 μ1 H locs hw_98 hP hD hS => ?_)
    obtain ⟨ri_99, hu_100, hg_101, hp_103, hp_104, hp_105⟩ := hw_98
    obtain ⟨hu_100a, hu_100b⟩ := Prod.mk.inj hu_100
    rw [hu_100a, hu_100b] at hP hD
    replace hF := hF.trans (ap_n (vR_cp hVT hO_w_96 (by decide) (funext fun _ => (cR_r hFr hap hO_w_95 (by decide) rfl)) hp_105))
    replace hFr := fr_R hFr hO_w_96 (by decide) hp_105
    have hG := GX.tr hG hg_101 (by decide)
    refine lv_aload_n hx hb dX7_copyFrom_96 rfl (lv_at hl 1 rfl) ?_
    obtain ⟨w_108, hR_w_108, hL_w_108, hK_w_108, hN_w_108, hT_w_108⟩ := sh_a hSH 233 (ci := 7) (kd := 13) (len := 12) rfl (by decide) hL_a0 hK_a0
    have hO_w_108 : w_108 = vrow σ 233 N := vo_k (c := 7) hO_a0 hR_w_108
    refine pg_f (v := .ref w_108) (C := RX7) (T := TX7) (N := 15) hx hb hts (tw_i inlX7) hown hK hP hL_a0 hK_a0 (by decide) rfl 9 (by decide) (hts _ (tw_c tw_69)) (pq_hv rfl hR_w_108) dX7_copyFrom_97 ?_
    refine lv_aload_n hx hb dX7_copyFrom_100 rfl (lv_at hl 0 rfl) ?_
    obtain ⟨w_109, hR_w_109, hL_w_109, hK_w_109, hN_w_109, hT_w_109⟩ := sh_a hSH 233 (ci := 7) (kd := 13) (len := 12) rfl (by decide) hL_this hK_this
    have hO_w_109 : w_109 = vrow σ 233 M := vo_k (c := 7) hO_this hR_w_109
    refine pg_f (v := .ref w_109) (C := RX7) (T := TX7) (N := 15) hx hb hts (tw_i inlX7) hown hK hP hL_this hK_this (by decide) rfl 9 (by decide) (hts _ (tw_c tw_69)) (pq_hv rfl hR_w_109) dX7_copyFrom_101 ?_
    refine pk_v (va_runSN (As := [.ref w_108, .ref w_109]) (rest := []) ⟨hx, hb, hml, hown, hts⟩ (s_X11_copy_233_233 l D t σ I_3 J ri_99 rj rq H.size tg hSH hG.1 w_108 w_109 hL_w_108 hK_w_108 hN_w_108 hT_w_108 hL_w_109 hK_w_109 hN_w_109 hT_w_109) ⟨va_cnB (host := "RingsUnder") 2 hts (tw_W tw_1102) rfl rfl rfl (nl_18 hN) (hts _ (tw_c tw_2)) cd_yX11_copy_2 ⟨Nat.le_of_ble_eq_true rfl, Nat.le_of_ble_eq_true rfl⟩, hts (.static yX11_copy) (tw_c tq_static_yX11_copy), trivial⟩ ⟨pq_blind, pq_pre hK hN hP hD⟩ rfl rfl hl.1 rfl (lv_room (Nat.le_of_ble_eq_true rfl)) dX7_copyFrom_104 ⟨Nat.le_of_ble_eq_true rfl, Nat.le_of_ble_eq_true rfl⟩) hD hS hA (fun σ1 μ1 H locs hw_111 hP hD hS => ?_)
    obtain ⟨ri_112, hu_113, hg_114, hp_116, hp_117, hp_118⟩ := hw_111
    obtain ⟨hu_113a, hu_113b⟩ := Prod.mk.inj hu_113
    rw [hu_113a, hu_113b] at hP hD
    replace hF := hF.trans (ap_n (vR_cp hVT hO_w_109 (by decide) (funext fun _ => (cR_r hFr hap hO_w_108 (by decide) rfl)) hp_118))
    replace hFr := fr_R hFr hO_w_109 (by decide) hp_118
    have hG := GX.tr hG hg_114 (by decide)
    refine lv_aload_n hx hb dX7_copyFrom_107 rfl (lv_at hl 0 rfl) ?_
    refine lv_aload_n hx hb dX7_copyFrom_108 rfl (lv_at hl 1 rfl) ?_
    refine pg_f (v := .int (I_3 234 a0)) (C := RX7) (T := TX7) (N := 15) hx hb hts (tw_i inlX7) hown hK hP hL_a0 hK_a0 (by decide) rfl 10 (by decide) (hts _ (tw_c tw_70)) rfl dX7_copyFrom_109 ?_
    replace hF := hF.trans (ap_n (cI_e (f := 234) hFr hap hO_a0 (by decide)))
    refine pp_i (v := (I_3 234 a0)) (ty := .int) (C := RX7) (T := TX7) (N := 15) hx hb hts (tw_i inlX7) tyX7 tyX7_ok nmX7 hown hK hP hD hS hL_this hK_this (by decide) rfl 10 234 (by decide) (hts _ (tw_c tw_70)) rfl (tyX7_ok 10 (by decide)) rfl rfl (Nat.le_of_ble_eq_true rfl) (ps_234 _ _ _ _ _) dX7_copyFrom_112 (fun I_122 H locs eI_122 hP hD hS => ?_)
    replace hFr := fr_I (f := 234) hFr hO_this (by decide) eI_122
    replace hF := hF.trans (ap_n (vI_st (f := 234) hO_this (by decide) eI_122))
    have hG := GX.wI hG 234 rfl eI_122 (rg_w (rg_full _) (by decide)) (by decide)
    refine lv_aload_n hx hb dX7_copyFrom_115 rfl (lv_at hl 0 rfl) ?_
    refine lv_aload_n hx hb dX7_copyFrom_116 rfl (lv_at hl 1 rfl) ?_
    refine pg_f (v := .int (I_122 235 a0)) (C := RX7) (T := TX7) (N := 15) hx hb hts (tw_i inlX7) hown hK hP hL_a0 hK_a0 (by decide) rfl 11 (by decide) (hts _ (tw_c tw_71)) rfl dX7_copyFrom_117 ?_
    replace hF := hF.trans (ap_n (cI_e (f := 235) hFr hap hO_a0 (by decide)))
    refine pp_i (v := (I_122 235 a0)) (ty := .int) (C := RX7) (T := TX7) (N := 15) hx hb hts (tw_i inlX7) tyX7 tyX7_ok nmX7 hown hK hP hD hS hL_this hK_this (by decide) rfl 11 235 (by decide) (hts _ (tw_c tw_71)) rfl (tyX7_ok 11 (by decide)) rfl rfl (Nat.le_of_ble_eq_true rfl) (ps_235 _ _ _ _ _) dX7_copyFrom_120 (fun I_124 H locs eI_124 hP hD hS => ?_)
    replace hFr := fr_I (f := 235) hFr hO_this (by decide) eI_124
    replace hF := hF.trans (ap_n (vI_st (f := 235) hO_this (by decide) eI_124))
    have hG := GX.wI hG 235 rfl eI_124 (rg_w (rg_full _) (by decide)) (by decide)
    refine lv_aload_n hx hb dX7_copyFrom_123 rfl (lv_at hl 0 rfl) ?_
    refine lv_aload_n hx hb dX7_copyFrom_124 rfl (lv_at hl 1 rfl) ?_
    refine pg_f (v := .int (I_124 236 a0)) (C := RX7) (T := TX7) (N := 15) hx hb hts (tw_i inlX7) hown hK hP hL_a0 hK_a0 (by decide) rfl 12 (by decide) (hts _ (tw_c tw_72)) rfl dX7_copyFrom_125 ?_
    replace hF := hF.trans (ap_n (cI_e (f := 236) hFr hap hO_a0 (by decide)))
    refine pp_i (v := (I_124 236 a0)) (ty := .int) (C := RX7) (T := TX7) (N := 15) hx hb hts (tw_i inlX7) tyX7 tyX7_ok nmX7 hown hK hP hD hS hL_this hK_this (by decide) rfl 12 236 (by decide) (hts _ (tw_c tw_72)) rfl (tyX7_ok 12 (by decide)) rfl rfl (Nat.le_of_ble_eq_true rfl) (ps_236 _ _ _ _ _) dX7_copyFrom_128 (fun I_126 H locs eI_126 hP hD hS => ?_)
    replace hFr := fr_I (f := 236) hFr hO_this (by decide) eI_126
    replace hF := hF.trans (ap_n (vI_st (f := 236) hO_this (by decide) eI_126))
    have hG := GX.wI hG 236 rfl eI_126 (rg_w (rg_full _) (by decide)) (by decide)
    refine lv_aload_n hx hb dX7_copyFrom_131 rfl (lv_at hl 0 rfl) ?_
    refine lv_aload_n hx hb dX7_copyFrom_132 rfl (lv_at hl 1 rfl) ?_
    refine pg_f (v := .int (I_126 237 a0)) (C := RX7) (T := TX7) (N := 15) hx hb hts (tw_i inlX7) hown hK hP hL_a0 hK_a0 (by decide) rfl 13 (by decide) (hts _ (tw_c tw_73)) rfl dX7_copyFrom_133 ?_
    have h_127 : rg (I_126 237 a0) 0 20 := GX.rI hG 237 rfl
    replace hF := hF.trans (ap_n (cI_e (f := 237) hFr hap hO_a0 (by decide)))
    refine pp_i (v := (I_126 237 a0)) (ty := .int) (C := RX7) (T := TX7) (N := 15) hx hb hts (tw_i inlX7) tyX7 tyX7_ok nmX7 hown hK hP hD hS hL_this hK_this (by decide) rfl 13 237 (by decide) (hts _ (tw_c tw_73)) rfl (tyX7_ok 13 (by decide)) rfl rfl (Nat.le_of_ble_eq_true rfl) (ps_237 _ _ _ _ _) dX7_copyFrom_136 (fun I_129 H locs eI_129 hP hD hS => ?_)
    replace hFr := fr_I (f := 237) hFr hO_this (by decide) eI_129
    replace hF := hF.trans (ap_n (vI_st (f := 237) hO_this (by decide) eI_129))
    have hG := GX.wI hG 237 rfl eI_129 (rg_w h_127 (by decide)) (by decide)
    refine lv_aload_n hx hb dX7_copyFrom_139 rfl (lv_at hl 0 rfl) ?_
    refine lv_aload_n hx hb dX7_copyFrom_140 rfl (lv_at hl 1 rfl) ?_
    refine pg_f (v := .int (I_129 238 a0)) (C := RX7) (T := TX7) (N := 15) hx hb hts (tw_i inlX7) hown hK hP hL_a0 hK_a0 (by decide) rfl 14 (by decide) (hts _ (tw_c tw_74)) rfl dX7_copyFrom_141 ?_
    replace hF := hF.trans (ap_n (cI_e (f := 238) hFr hap hO_a0 (by decide)))
    refine pp_i (v := (I_129 238 a0)) (ty := .int) (C := RX7) (T := TX7) (N := 15) hx hb hts (tw_i inlX7) tyX7 tyX7_ok nmX7 hown hK hP hD hS hL_this hK_this (by decide) rfl 14 238 (by decide) (hts _ (tw_c tw_74)) rfl (tyX7_ok 14 (by decide)) rfl rfl (Nat.le_of_ble_eq_true rfl) (ps_238 _ _ _ _ _) dX7_copyFrom_144 (fun I_131 H locs eI_131 hP hD hS => ?_)
    replace hFr := fr_I (f := 238) hFr hO_this (by decide) eI_131
    replace hF := hF.trans (ap_n (vI_st (f := 238) hO_this (by decide) eI_131))
    have hG := GX.wI hG 238 rfl eI_131 (rg_w (rg_full _) (by decide)) (by decide)
    subst hQ
    exact W.vret hx hb hr (fun t1 ht hW => ⟨⟨(σ, I_131, J, ri_112, rj, rq), rfl, ⟨I_131, ri_112, rfl, hG, (hF0.symm.trans hF), hFr⟩, by rw [ht]; exact hP, va_K.moved hW.alike hK, hD⟩, hS.F ht⟩) hS.2.2 dX7_copyFrom_147
  exact go _ _ _ hP hD hS hl

set_option maxRecDepth 100000 in
def g_X7_tell (a0 : Int32) (a1 : Int32) (a2 : Int32) (a3 : Int32) (I : Nat → Int32) (J : Nat → Int64) (ri : Nat → Nat → Int32) (rj : Nat → Nat → Int64) (rq : Nat → Nat → Option Nat) : Int32 × vM := (ap1 (I 224) fun (y_2 : Int32) => (if (y_2) < (200 : Int32) then (ap1 (va_up ri 225 (upd (ri 225) ((y_2)).toNatClampNeg a0)) fun (r_8 : Nat → Nat → Int32) => (ap1 (va_up r_8 226 (upd (r_8 226) ((y_2)).toNatClampNeg a1)) fun (r_10 : Nat → Nat → Int32) => (ap1 (va_up r_10 227 (upd (r_10 227) ((y_2)).toNatClampNeg a2)) fun (r_12 : Nat → Nat → Int32) => (ap1 (va_up r_12 228 (upd (r_12 228) ((y_2)).toNatClampNeg a3)) fun (r_14 : Nat → Nat → Int32) => (ap1 ((y_2) + (1 : Int32)) fun (x_15 : Int32) => (ap1 (va_up I 224 x_15) fun (I_17 : Nat → Int32) => (ap1 (I_17 224) fun (y_19 : Int32) => ((y_19), I_17, J, r_14, rj, rq)))))))) else ((-1 : Int32), I, J, ri, rj, rq)))
set_option maxRecDepth 100000 in
theorem g_X7_tell_e {a0 : Int32} {a1 : Int32} {a2 : Int32} {a3 : Int32} {I : Nat → Int32} {J : Nat → Int64} {ri : Nat → Nat → Int32} {rj : Nat → Nat → Int64} {rq : Nat → Nat → Option Nat} : g_X7_tell a0 a1 a2 a3 I J ri rj rq = (ap1 (I 224) fun (y_2 : Int32) => (if (y_2) < (200 : Int32) then (ap1 (va_up ri 225 (upd (ri 225) ((y_2)).toNatClampNeg a0)) fun (r_8 : Nat → Nat → Int32) => (ap1 (va_up r_8 226 (upd (r_8 226) ((y_2)).toNatClampNeg a1)) fun (r_10 : Nat → Nat → Int32) => (ap1 (va_up r_10 227 (upd (r_10 227) ((y_2)).toNatClampNeg a2)) fun (r_12 : Nat → Nat → Int32) => (ap1 (va_up r_12 228 (upd (r_12 228) ((y_2)).toNatClampNeg a3)) fun (r_14 : Nat → Nat → Int32) => (ap1 ((y_2) + (1 : Int32)) fun (x_15 : Int32) => (ap1 (va_up I 224 x_15) fun (I_17 : Nat → Int32) => (ap1 (I_17 224) fun (y_19 : Int32) => ((y_19), I_17, J, r_14, rj, rq)))))))) else ((-1 : Int32), I, J, ri, rj, rq))) := rfl
set_option maxHeartbeats 4000000 in
set_option maxRecDepth 100000 in
theorem s_X7_tell (l : Launch) (D : va_G) (t : pq_T) (σ : pq_S) (I : Nat → Nat → Int32) (J : Nat → Nat → Int64) (ri : Nat → Nat → Int32) (rj : Nat → Nat → Int64) (rq : Nat → Nat → Option Nat) (sz : Nat) (tg : Nat → Nat) (hSH : SH σ tg) (hG0 : GS tg σ I ri rq) (this : Nat) (a0 : Int32) (a1 : Int32) (a2 : Int32) (a3 : Int32) (hL_this : this ∈ σ.1) (hK_this : σ.2.1 this = 7) (M : Nat) (hL_M : M ∈ σ.1) (hK_M : σ.2.1 M = 10) (hO_this : this = vo σ 7 M) : MetI l yX7_tell (wa yX7_tell cX7_tell 5 (some .int)) ({ frames := 0, cells := 0, slots := 0, locals := 0 }) [.ref this, .int a0, .int a1, .int a2, .int a3] D t σ (I, J, ri, rj, rq) sz 0 0 (fun (r : Int32) (u : pq_S × pq_M) => ∃ I' : Nat → Nat → Int32, ∃ ri' : Nat → Nat → Int32, u = (σ, I', J, ri', rj, rq) ∧ GX [1225, 1226, 1227, 1228, 224] tg σ I ri rj I' ri' rj rq ∧ g_X7_tell a0 a1 a2 a3 (vI 10 σ M I) (vJ 10 σ M J) (vR 10 σ M ri) (vL 10 σ M rj) (vQ 10 σ M rq) = (r, (vI 10 σ M I'), (vJ 10 σ M J), (vR 10 σ M ri'), (vL 10 σ M rj), (vQ 10 σ M rq)) ∧ FR 10 tg σ M (I, J, ri, rj, rq) (I', J, ri', rj, rq) ∧ rg r (-1) 200) := by
  refine Met.ofW (cc := cX7_tell) (maxL := 5) (ret := (some .int)) (by decide) rfl ?_
  intro p e s m args below meth c s₁ B hml hv
  obtain ⟨rfl, hsz, hP, hK, hD0, hN⟩ := hv
  have hx := B.exec
  have hb := B.bytes
  have hr := B.returns
  have hts := atoms_spec (ws := (wa yX7_tell cX7_tell 5 (some .int))) B.pre
  have hown : s.vm.findClass RX7 = some m.cls := findClass_of_methodNamed B.named
  have hlocks := B.notSynchronized
  subst hsz
  have hD : va_D (pq_B t σ (I, J, ri, rj, rq) s.heap.size) (pq_P t σ (I, J, ri, rj, rq)) := hD0.self
  generalize hAe : pq_B t σ (I, J, ri, rj, rq) s.heap.size = A at hD ⊢
  have hA : ∀ q : Nat, s.heap.size ≤ q → A q := fun q h => by rw [← hAe]; exact Or.inr h
  have hS : va_S A s.heap s.heap [] := va_S.rf
  have hG : GX [1225, 1226, 1227, 1228, 224] tg σ I ri rj I ri rj rq := ⟨hG0, fun _ _ _ => rfl, fun _ _ _ _ _ => rfl, fun _ _ _ _ _ => rfl⟩
  have hl := lv_entry ([.ref this, .int a0, .int a1, .int a2, .int a3]) (n := 5) (Nat.le_of_ble_eq_true rfl)
  rw [lg_entry_eq]
  generalize (lg_sl ([.ref this, .int a0, .int a1, .int a2, .int a3]) ++ List.replicate (5 - (lg_sl ([.ref this, .int a0, .int a1, .int a2, .int a3])).length) Slot.unset).toArray = ls at hl ⊢
  have hl : lv_has ls 5 [(0, .ref this), (1, .int a0), (2, .int a1), (3, .int a2), (4, .int a3)] := hl
  refine q_gen (fun Q hQ => ?_)
  have go : ∀ (H : Heap) (locs : List Loc) (ls : Array Slot), va_P D vwCl (pq_P t σ (I, J, ri, rj, rq)) H → va_D A (pq_P t σ (I, J, ri, rj, rq)) → va_S A s.heap H locs → lv_has ls 5 [(0, .ref this), (1, .int a0), (2, .int a1), (3, .int a2), (4, .int a3)] → W p l e ({ frames := 0, cells := 0, slots := 0, locals := 0 } : Room) s m (List.toArray ([.ref this, .int a0, .int a1, .int a2, .int a3] : List Value)) below meth c H locs 0 0 Q (F0 m 0 ls []) := by
    intro H locs ls hP hD hS hl
    have hVT : VT 10 σ tg M := vt_10 hSH hL_M hK_M
    have hFr : FR 10 tg σ M (I, J, ri, rj, rq) (I, J, ri, rj, rq) := fr_rf
    obtain ⟨F, hF0⟩ : ∃ F, F = g_X7_tell a0 a1 a2 a3 (vI 10 σ M I) (vJ 10 σ M J) (vR 10 σ M ri) (vL 10 σ M rj) (vQ 10 σ M rq) := ⟨_, rfl⟩
    have hF := hF0.trans g_X7_tell_e
    refine lv_aload_n hx hb dX7_tell_0 rfl (lv_at hl 0 rfl) ?_
    refine pg_f (v := .int (I 224 this)) (C := RX7) (T := TX7) (N := 15) hx hb hts (tw_i inlX7) hown hK hP hL_this hK_this (by decide) rfl 0 (by decide) (hts _ (tw_c tw_254)) rfl dX7_tell_1 ?_
    have h_1 : rg (I 224 this) 0 200 := GX.rI hG 224 rfl
    replace hF := hF.trans (ap_n (vI_e (f := 224) hO_this (by decide)))
    refine lv_sipush (v := 200) hx hb dX7_tell_4 (by decide) ?_
    refine lv_icmp_lt (tgt := 12) hx hb dX7_tell_7 (by decide) (fun c_3 => ?_) (fun c_3 => ?_)
    · replace hF := hF.trans (if_pos c_3)
      have h_6 : rg (I 224 this) 0 199 := rg_lt1 c_3 h_1 (rg_k (200 : Int32) 200 rfl) (by decide)
      refine lv_aload_n hx hb dX7_tell_12 rfl (lv_at hl 0 rfl) ?_
      obtain ⟨w_7, hR_w_7, hL_w_7, hK_w_7, hN_w_7, hT_w_7⟩ := sh_a hSH 225 (ci := 7) (kd := 13) (len := 200) rfl (by decide) hL_this hK_this
      have hO_w_7 : w_7 = vrow σ 225 M := vo_k (c := 7) hO_this hR_w_7
      refine pg_f (v := .ref w_7) (C := RX7) (T := TX7) (N := 15) hx hb hts (tw_i inlX7) hown hK hP hL_this hK_this (by decide) rfl 1 (by decide) (hts _ (tw_c tw_61)) (pq_hv rfl hR_w_7) dX7_tell_13 ?_
      refine lv_aload_n hx hb dX7_tell_16 rfl (lv_at hl 0 rfl) ?_
      refine pg_f (v := .int (I 224 this)) (C := RX7) (T := TX7) (N := 15) hx hb hts (tw_i inlX7) hown hK hP hL_this hK_this (by decide) rfl 0 (by decide) (hts _ (tw_c tw_254)) rfl dX7_tell_17 ?_
      refine lv_iload_n hx hb dX7_tell_20 rfl (lv_at hl 1 rfl) ?_
      refine pt_i hx hb hK hP hD hS hL_w_7 hK_w_7 hN_w_7 (rg_in h_6 (by decide)) dX7_tell_21 (fun r_8 H locs er_8 hP hD hS => ?_)
      replace hFr := fr_R hFr hO_w_7 (by decide) er_8
      replace hF := hF.trans (ap_n (vR_st hVT hO_w_7 (by decide) er_8))
      have hG := GX.wR hG hSH hT_w_7 rfl er_8 (rg_w (rg_full _) (by decide)) (by decide)
      refine lv_aload_n hx hb dX7_tell_22 rfl (lv_at hl 0 rfl) ?_
      obtain ⟨w_9, hR_w_9, hL_w_9, hK_w_9, hN_w_9, hT_w_9⟩ := sh_a hSH 226 (ci := 7) (kd := 13) (len := 200) rfl (by decide) hL_this hK_this
      have hO_w_9 : w_9 = vrow σ 226 M := vo_k (c := 7) hO_this hR_w_9
      refine pg_f (v := .ref w_9) (C := RX7) (T := TX7) (N := 15) hx hb hts (tw_i inlX7) hown hK hP hL_this hK_this (by decide) rfl 2 (by decide) (hts _ (tw_c tw_62)) (pq_hv rfl hR_w_9) dX7_tell_23 ?_
      refine lv_aload_n hx hb dX7_tell_26 rfl (lv_at hl 0 rfl) ?_
      refine pg_f (v := .int (I 224 this)) (C := RX7) (T := TX7) (N := 15) hx hb hts (tw_i inlX7) hown hK hP hL_this hK_this (by decide) rfl 0 (by decide) (hts _ (tw_c tw_254)) rfl dX7_tell_27 ?_
      refine lv_iload_n hx hb dX7_tell_30 rfl (lv_at hl 2 rfl) ?_
      refine pt_i hx hb hK hP hD hS hL_w_9 hK_w_9 hN_w_9 (rg_in h_6 (by decide)) dX7_tell_31 (fun r_10 H locs er_10 hP hD hS => ?_)
      replace hFr := fr_R hFr hO_w_9 (by decide) er_10
      replace hF := hF.trans (ap_n (vR_st hVT hO_w_9 (by decide) er_10))
      have hG := GX.wR hG hSH hT_w_9 rfl er_10 (rg_w (rg_full _) (by decide)) (by decide)
      refine lv_aload_n hx hb dX7_tell_32 rfl (lv_at hl 0 rfl) ?_
      obtain ⟨w_11, hR_w_11, hL_w_11, hK_w_11, hN_w_11, hT_w_11⟩ := sh_a hSH 227 (ci := 7) (kd := 13) (len := 200) rfl (by decide) hL_this hK_this
      have hO_w_11 : w_11 = vrow σ 227 M := vo_k (c := 7) hO_this hR_w_11
      refine pg_f (v := .ref w_11) (C := RX7) (T := TX7) (N := 15) hx hb hts (tw_i inlX7) hown hK hP hL_this hK_this (by decide) rfl 3 (by decide) (hts _ (tw_c tw_63)) (pq_hv rfl hR_w_11) dX7_tell_33 ?_
      refine lv_aload_n hx hb dX7_tell_36 rfl (lv_at hl 0 rfl) ?_
      refine pg_f (v := .int (I 224 this)) (C := RX7) (T := TX7) (N := 15) hx hb hts (tw_i inlX7) hown hK hP hL_this hK_this (by decide) rfl 0 (by decide) (hts _ (tw_c tw_254)) rfl dX7_tell_37 ?_
      refine lv_iload_n hx hb dX7_tell_40 rfl (lv_at hl 3 rfl) ?_
      refine pt_i hx hb hK hP hD hS hL_w_11 hK_w_11 hN_w_11 (rg_in h_6 (by decide)) dX7_tell_41 (fun r_12 H locs er_12 hP hD hS => ?_)
      replace hFr := fr_R hFr hO_w_11 (by decide) er_12
      replace hF := hF.trans (ap_n (vR_st hVT hO_w_11 (by decide) er_12))
      have hG := GX.wR hG hSH hT_w_11 rfl er_12 (rg_w (rg_full _) (by decide)) (by decide)
      refine lv_aload_n hx hb dX7_tell_42 rfl (lv_at hl 0 rfl) ?_
      obtain ⟨w_13, hR_w_13, hL_w_13, hK_w_13, hN_w_13, hT_w_13⟩ := sh_a hSH 228 (ci := 7) (kd := 13) (len := 200) rfl (by decide) hL_this hK_this
      have hO_w_13 : w_13 = vrow σ 228 M := vo_k (c := 7) hO_this hR_w_13
      refine pg_f (v := .ref w_13) (C := RX7) (T := TX7) (N := 15) hx hb hts (tw_i inlX7) hown hK hP hL_this hK_this (by decide) rfl 4 (by decide) (hts _ (tw_c tw_64)) (pq_hv rfl hR_w_13) dX7_tell_43 ?_
      refine lv_aload_n hx hb dX7_tell_46 rfl (lv_at hl 0 rfl) ?_
      refine pg_f (v := .int (I 224 this)) (C := RX7) (T := TX7) (N := 15) hx hb hts (tw_i inlX7) hown hK hP hL_this hK_this (by decide) rfl 0 (by decide) (hts _ (tw_c tw_254)) rfl dX7_tell_47 ?_
      refine lv_iload hx hb dX7_tell_50 (lv_at hl 4 rfl) ?_
      refine pt_i hx hb hK hP hD hS hL_w_13 hK_w_13 hN_w_13 (rg_in h_6 (by decide)) dX7_tell_52 (fun r_14 H locs er_14 hP hD hS => ?_)
      replace hFr := fr_R hFr hO_w_13 (by decide) er_14
      replace hF := hF.trans (ap_n (vR_st hVT hO_w_13 (by decide) er_14))
      have hG := GX.wR hG hSH hT_w_13 rfl er_14 (rg_w (rg_full _) (by decide)) (by decide)
      refine lv_aload_n hx hb dX7_tell_53 rfl (lv_at hl 0 rfl) ?_
      refine lv_dup hx hb dX7_tell_54 rfl ?_
      refine pg_f (v := .int (I 224 this)) (C := RX7) (T := TX7) (N := 15) hx hb hts (tw_i inlX7) hown hK hP hL_this hK_this (by decide) rfl 0 (by decide) (hts _ (tw_c tw_254)) rfl dX7_tell_55 ?_
      refine lv_iconst (v := 1) hx hb dX7_tell_58 (by decide) ?_
      refine lv_iadd hx hb dX7_tell_59 ?_
      refine lv_topi (fun x_15 ex_15 => ?_)
      replace hF := hF.trans (ap_n ex_15)
      have h_16 : rg x_15 1 200 := rg_of_eq ex_15 (rg_add h_6 (rg_k (1 : Int32) 1 rfl) (by decide))
      refine pp_i (v := x_15) (ty := .int) (C := RX7) (T := TX7) (N := 15) hx hb hts (tw_i inlX7) tyX7 tyX7_ok nmX7 hown hK hP hD hS hL_this hK_this (by decide) rfl 0 224 (by decide) (hts _ (tw_c tw_254)) rfl (tyX7_ok 0 (by decide)) rfl rfl (Nat.le_of_ble_eq_true rfl) (ps_224 _ _ _ _ _) dX7_tell_60 (fun I_17 H locs eI_17 hP hD hS => ?_)
      replace hFr := fr_I (f := 224) hFr hO_this (by decide) eI_17
      replace hF := hF.trans (ap_n (vI_st (f := 224) hO_this (by decide) eI_17))
      have hG := GX.wI hG 224 rfl eI_17 (rg_w h_16 (by decide)) (by decide)
      refine lv_aload_n hx hb dX7_tell_63 rfl (lv_at hl 0 rfl) ?_
      refine pg_f (v := .int (I_17 224 this)) (C := RX7) (T := TX7) (N := 15) hx hb hts (tw_i inlX7) hown hK hP hL_this hK_this (by decide) rfl 0 (by decide) (hts _ (tw_c tw_254)) rfl dX7_tell_64 ?_
      have h_18 : rg (I_17 224 this) 1 200 := (by rw [eI_17, pq_us]; exact h_16)
      replace hF := hF.trans (ap_n (vI_e (f := 224) hO_this (by decide)))
      subst hQ
      exact W.iret (v := (I_17 224 this)) hx hb hr (fun t1 ht hW => ⟨⟨(I_17 224 this), (σ, I_17, J, r_14, rj, rq), rfl, ⟨I_17, r_14, rfl, hG, (hF0.symm.trans hF), hFr, (rg_w h_18 (by decide))⟩, by rw [ht]; exact hP, va_K.moved hW.alike hK, hD⟩, hS.F ht⟩) hS.2.2 dX7_tell_67
    · replace hF := hF.trans (if_neg c_3)
      have h_20 : rg (I 224 this) 200 200 := rg_le2 (nlt c_3) (rg_k (200 : Int32) 200 rfl) h_1 (by decide)
      refine lv_iconst (v := (-1)) hx hb dX7_tell_10 (by decide) ?_
      subst hQ
      exact W.iret (v := (-1)) hx hb hr (fun t1 ht hW => ⟨⟨(-1), (σ, I, J, ri, rj, rq), rfl, ⟨I, ri, rfl, hG, (hF0.symm.trans hF), hFr, (rg_w (rg_k (-1 : Int32) (-1) rfl) (by decide))⟩, by rw [ht]; exact hP, va_K.moved hW.alike hK, hD⟩, hS.F ht⟩) hS.2.2 dX7_tell_11
  exact go _ _ _ hP hD hS hl
