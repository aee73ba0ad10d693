theorem dX12_fundGoes_0 : decode cX12_fundGoes 0 = .ok (.iconst 0, 1) := oc_3 (by decide +kernel)
theorem dX12_fundGoes_1 : decode cX12_fundGoes 1 = .ok (.istore_n 2, 1) := oc_61 (by decide +kernel)
theorem dX12_fundGoes_2 : decode cX12_fundGoes 2 = .ok (.iload_n 2, 1) := oc_28 (by decide +kernel)
theorem dX12_fundGoes_3 : decode cX12_fundGoes 3 = .ok (.aload_n 0, 1) := oc_42 (by decide +kernel)
theorem dX12_fundGoes_4 : decode cX12_fundGoes 4 = .ok (.getfield 7, 3) := oc_180 (a := 0) (b := 7) (by decide +kernel)
theorem dX12_fundGoes_7 : decode cX12_fundGoes 7 = .ok (.iconst 5, 1) := oc_8 (by decide +kernel)
theorem dX12_fundGoes_8 : decode cX12_fundGoes 8 = .ok (.iaload, 1) := oc_46 (by decide +kernel)
theorem dX12_fundGoes_9 : decode cX12_fundGoes 9 = .ok (.if_icmp .ge 37, 3) := oc_162 (a := 0) (b := 37) (by decide +kernel)
theorem dX12_fundGoes_46 : decode cX12_fundGoes 46 = .ok (.aload_n 0, 1) := oc_42 (by decide +kernel)
theorem dX12_fundGoes_47 : decode cX12_fundGoes 47 = .ok (.iconst 0, 1) := oc_3 (by decide +kernel)
theorem tw_1237 : Cond.fieldLink RX12 325 "RingsUnderModel" "cantNow" "I" ∈ wsL_law := sg_52 _ (List.mem_of_getElem? (i := 13) rfl)
theorem dX12_fundGoes_48 : decode cX12_fundGoes 48 = .ok (.putfield 325, 3) := oc_181 (a := 1) (b := 69) (by decide +kernel)
theorem dX12_fundGoes_51 : decode cX12_fundGoes 51 = .ok (.aload_n 0, 1) := oc_42 (by decide +kernel)
theorem tw_1238 : Cond.fieldLink RX12 328 "RingsUnderModel" "lawless" "I" ∈ wsL_law := sg_52 _ (List.mem_of_getElem? (i := 14) rfl)
theorem dX12_fundGoes_52 : decode cX12_fundGoes 52 = .ok (.getfield 328, 3) := oc_180 (a := 1) (b := 72) (by decide +kernel)
theorem dX12_fundGoes_55 : decode cX12_fundGoes 55 = .ok (.iconst 1, 1) := oc_4 (by decide +kernel)
theorem dX12_fundGoes_56 : decode cX12_fundGoes 56 = .ok (.if_icmp .ne 4, 3) := oc_160 (a := 0) (b := 4) (by decide +kernel)
theorem dX12_fundGoes_60 : decode cX12_fundGoes 60 = .ok (.aload_n 0, 1) := oc_42 (by decide +kernel)
theorem dX12_fundGoes_61 : decode cX12_fundGoes 61 = .ok (.getfield 7, 3) := oc_180 (a := 0) (b := 7) (by decide +kernel)
theorem dX12_fundGoes_64 : decode cX12_fundGoes 64 = .ok (.bipush 18, 2) := oc_16 (a := 18) (by decide +kernel)
theorem dX12_fundGoes_66 : decode cX12_fundGoes 66 = .ok (.aload_n 0, 1) := oc_42 (by decide +kernel)
theorem dX12_fundGoes_67 : decode cX12_fundGoes 67 = .ok (.iload_n 1, 1) := oc_27 (by decide +kernel)
theorem tw_1239 : Cond.methodLink RX12 331 yX12_areaOf ∈ wsL_law := sg_52 _ (List.mem_of_getElem? (i := 15) rfl)
theorem tw_1240 : Cond.instanceMethod yX12_areaOf ∈ wsL_law := sg_52 _ (List.mem_of_getElem? (i := 16) rfl)
theorem tw_1241 : Cond.selects RX12 yX12_areaOf yX12_areaOf ∈ wsL_law := sg_52 _ (List.mem_of_getElem? (i := 17) rfl)
theorem tw_1242 : Cond.code yX12_areaOf cX12_areaOf 10 (some .int) ∈ wsL_law := sg_52 _ (List.mem_of_getElem? (i := 18) rfl)
theorem dX12_fundGoes_68 : decode cX12_fundGoes 68 = .ok (.invokevirtual 331, 3) := oc_182 (a := 1) (b := 75) (by decide +kernel)
theorem dX12_fundGoes_71 : decode cX12_fundGoes 71 = .ok (.iastore, 1) := oc_79 (by decide +kernel)
theorem dX12_fundGoes_72 : decode cX12_fundGoes 72 = .ok (.aload_n 0, 1) := oc_42 (by decide +kernel)
theorem dX12_fundGoes_73 : decode cX12_fundGoes 73 = .ok (.getfield 7, 3) := oc_180 (a := 0) (b := 7) (by decide +kernel)
theorem dX12_fundGoes_76 : decode cX12_fundGoes 76 = .ok (.bipush 8, 2) := oc_16 (a := 8) (by decide +kernel)
theorem dX12_fundGoes_78 : decode cX12_fundGoes 78 = .ok (.dup2, 1) := oc_92 (by decide +kernel)
theorem dX12_fundGoes_79 : decode cX12_fundGoes 79 = .ok (.iaload, 1) := oc_46 (by decide +kernel)
theorem dX12_fundGoes_80 : decode cX12_fundGoes 80 = .ok (.aload_n 0, 1) := oc_42 (by decide +kernel)
theorem dX12_fundGoes_81 : decode cX12_fundGoes 81 = .ok (.bipush 9, 2) := oc_16 (a := 9) (by decide +kernel)
theorem dX12_fundGoes_83 : decode cX12_fundGoes 83 = .ok (.iload_n 1, 1) := oc_27 (by decide +kernel)
theorem dX12_fundGoes_84 : decode cX12_fundGoes 84 = .ok (.bipush 10, 2) := oc_16 (a := 10) (by decide +kernel)
theorem dX12_fundGoes_86 : decode cX12_fundGoes 86 = .ok (.invokevirtual 304, 3) := oc_182 (a := 1) (b := 48) (by decide +kernel)
theorem dX12_fundGoes_89 : decode cX12_fundGoes 89 = .ok (.aload_n 0, 1) := oc_42 (by decide +kernel)
theorem dX12_fundGoes_90 : decode cX12_fundGoes 90 = .ok (.getfield 7, 3) := oc_180 (a := 0) (b := 7) (by decide +kernel)
theorem dX12_fundGoes_93 : decode cX12_fundGoes 93 = .ok (.bipush 18, 2) := oc_16 (a := 18) (by decide +kernel)
theorem dX12_fundGoes_95 : decode cX12_fundGoes 95 = .ok (.iaload, 1) := oc_46 (by decide +kernel)
theorem dX12_fundGoes_96 : decode cX12_fundGoes 96 = .ok (.imul, 1) := oc_104 (by decide +kernel)
theorem dX12_fundGoes_97 : decode cX12_fundGoes 97 = .ok (.bipush 100, 2) := oc_16 (a := 100) (by decide +kernel)
theorem dX12_fundGoes_99 : decode cX12_fundGoes 99 = .ok (.idiv, 1) := oc_108 (by decide +kernel)
theorem dX12_fundGoes_100 : decode cX12_fundGoes 100 = .ok (.iadd, 1) := oc_96 (by decide +kernel)
theorem dX12_fundGoes_101 : decode cX12_fundGoes 101 = .ok (.iastore, 1) := oc_79 (by decide +kernel)
theorem dX12_fundGoes_102 : decode cX12_fundGoes 102 = .ok (.iconst 0, 1) := oc_3 (by decide +kernel)
theorem dX12_fundGoes_103 : decode cX12_fundGoes 103 = .ok (.istore_n 2, 1) := oc_61 (by decide +kernel)
theorem dX12_fundGoes_104 : decode cX12_fundGoes 104 = .ok (.iload_n 2, 1) := oc_28 (by decide +kernel)
theorem dX12_fundGoes_105 : decode cX12_fundGoes 105 = .ok (.aload_n 0, 1) := oc_42 (by decide +kernel)
theorem dX12_fundGoes_106 : decode cX12_fundGoes 106 = .ok (.getfield 7, 3) := oc_180 (a := 0) (b := 7) (by decide +kernel)
theorem dX12_fundGoes_109 : decode cX12_fundGoes 109 = .ok (.iconst 2, 1) := oc_5 (by decide +kernel)
theorem dX12_fundGoes_110 : decode cX12_fundGoes 110 = .ok (.iaload, 1) := oc_46 (by decide +kernel)
theorem dX12_fundGoes_111 : decode cX12_fundGoes 111 = .ok (.if_icmp .ge 36, 3) := oc_162 (a := 0) (b := 36) (by decide +kernel)
theorem dX12_fundGoes_147 : decode cX12_fundGoes 147 = .ok (.aload_n 0, 1) := oc_42 (by decide +kernel)
theorem dX12_fundGoes_148 : decode cX12_fundGoes 148 = .ok (.getfield 7, 3) := oc_180 (a := 0) (b := 7) (by decide +kernel)
theorem dX12_fundGoes_151 : decode cX12_fundGoes 151 = .ok (.bipush 8, 2) := oc_16 (a := 8) (by decide +kernel)
theorem dX12_fundGoes_153 : decode cX12_fundGoes 153 = .ok (.iaload, 1) := oc_46 (by decide +kernel)
theorem dX12_fundGoes_154 : decode cX12_fundGoes 154 = .ok (.ifCond .lt 4, 3) := oc_155 (a := 0) (b := 4) (by decide +kernel)
theorem dX12_fundGoes_158 : decode cX12_fundGoes 158 = .ok (.aload_n 0, 1) := oc_42 (by decide +kernel)
theorem dX12_fundGoes_159 : decode cX12_fundGoes 159 = .ok (.iconst 1, 1) := oc_4 (by decide +kernel)
theorem dX12_fundGoes_160 : decode cX12_fundGoes 160 = .ok (.putfield 325, 3) := oc_181 (a := 1) (b := 69) (by decide +kernel)
theorem dX12_fundGoes_163 : decode cX12_fundGoes 163 = .ok (.aload_n 0, 1) := oc_42 (by decide +kernel)
theorem dX12_fundGoes_164 : decode cX12_fundGoes 164 = .ok (.getfield 7, 3) := oc_180 (a := 0) (b := 7) (by decide +kernel)
theorem dX12_fundGoes_167 : decode cX12_fundGoes 167 = .ok (.bipush 12, 2) := oc_16 (a := 12) (by decide +kernel)
theorem dX12_fundGoes_169 : decode cX12_fundGoes 169 = .ok (.iaload, 1) := oc_46 (by decide +kernel)
theorem dX12_fundGoes_170 : decode cX12_fundGoes 170 = .ok (.ifCond .ge 11, 3) := oc_156 (a := 0) (b := 11) (by decide +kernel)
theorem dX12_fundGoes_181 : decode cX12_fundGoes 181 = .ok (.return_, 1) := oc_177 (by decide +kernel)
theorem dX12_fundGoes_173 : decode cX12_fundGoes 173 = .ok (.aload_n 0, 1) := oc_42 (by decide +kernel)
theorem dX12_fundGoes_174 : decode cX12_fundGoes 174 = .ok (.getfield 7, 3) := oc_180 (a := 0) (b := 7) (by decide +kernel)
theorem dX12_fundGoes_177 : decode cX12_fundGoes 177 = .ok (.bipush 12, 2) := oc_16 (a := 12) (by decide +kernel)
theorem dX12_fundGoes_179 : decode cX12_fundGoes 179 = .ok (.iload_n 1, 1) := oc_27 (by decide +kernel)
theorem dX12_fundGoes_180 : decode cX12_fundGoes 180 = .ok (.iastore, 1) := oc_79 (by decide +kernel)
theorem dX12_fundGoes_157 : decode cX12_fundGoes 157 = .ok (.return_, 1) := oc_177 (by decide +kernel)
theorem dX12_fundGoes_114 : decode cX12_fundGoes 114 = .ok (.aload_n 0, 1) := oc_42 (by decide +kernel)
theorem dX12_fundGoes_115 : decode cX12_fundGoes 115 = .ok (.iload_n 2, 1) := oc_28 (by decide +kernel)
theorem dX12_fundGoes_116 : decode cX12_fundGoes 116 = .ok (.bipush 6, 2) := oc_16 (a := 6) (by decide +kernel)
theorem dX12_fundGoes_118 : decode cX12_fundGoes 118 = .ok (.invokevirtual 91, 3) := oc_182 (a := 0) (b := 91) (by decide +kernel)
theorem dX12_fundGoes_141 : decode cX12_fundGoes 141 = .ok (.iinc 2 1, 3) := oc_132 (b := 1) (by decide +kernel)
theorem dX12_fundGoes_144 : decode cX12_fundGoes 144 = .ok (.goto (-40), 3) := oc_167 (a := 255) (b := 216) (by decide +kernel)
theorem dX12_fundGoes_121 : decode cX12_fundGoes 121 = .ok (.ifCond .le 20, 3) := oc_158 (a := 0) (b := 20) (by decide +kernel)
theorem dX12_fundGoes_124 : decode cX12_fundGoes 124 = .ok (.aload_n 0, 1) := oc_42 (by decide +kernel)
theorem dX12_fundGoes_125 : decode cX12_fundGoes 125 = .ok (.getfield 7, 3) := oc_180 (a := 0) (b := 7) (by decide +kernel)
theorem dX12_fundGoes_128 : decode cX12_fundGoes 128 = .ok (.bipush 8, 2) := oc_16 (a := 8) (by decide +kernel)
theorem dX12_fundGoes_130 : decode cX12_fundGoes 130 = .ok (.dup2, 1) := oc_92 (by decide +kernel)
theorem dX12_fundGoes_131 : decode cX12_fundGoes 131 = .ok (.iaload, 1) := oc_46 (by decide +kernel)
theorem dX12_fundGoes_132 : decode cX12_fundGoes 132 = .ok (.aload_n 0, 1) := oc_42 (by decide +kernel)
theorem dX12_fundGoes_133 : decode cX12_fundGoes 133 = .ok (.getfield 7, 3) := oc_180 (a := 0) (b := 7) (by decide +kernel)
theorem dX12_fundGoes_136 : decode cX12_fundGoes 136 = .ok (.bipush 17, 2) := oc_16 (a := 17) (by decide +kernel)
theorem dX12_fundGoes_138 : decode cX12_fundGoes 138 = .ok (.iaload, 1) := oc_46 (by decide +kernel)
theorem dX12_fundGoes_139 : decode cX12_fundGoes 139 = .ok (.isub, 1) := oc_100 (by decide +kernel)
theorem dX12_fundGoes_140 : decode cX12_fundGoes 140 = .ok (.iastore, 1) := oc_79 (by decide +kernel)
theorem dX12_fundGoes_59 : decode cX12_fundGoes 59 = .ok (.return_, 1) := oc_177 (by decide +kernel)
theorem dX12_fundGoes_12 : decode cX12_fundGoes 12 = .ok (.aload_n 0, 1) := oc_42 (by decide +kernel)
theorem dX12_fundGoes_13 : decode cX12_fundGoes 13 = .ok (.iload_n 2, 1) := oc_28 (by decide +kernel)
theorem dX12_fundGoes_14 : decode cX12_fundGoes 14 = .ok (.iconst 3, 1) := oc_6 (by decide +kernel)
theorem dX12_fundGoes_15 : decode cX12_fundGoes 15 = .ok (.invokevirtual 94, 3) := oc_182 (a := 0) (b := 94) (by decide +kernel)
theorem dX12_fundGoes_18 : decode cX12_fundGoes 18 = .ok (.sipush 200, 3) := oc_17 (a := 0) (b := 200) (by decide +kernel)
theorem dX12_fundGoes_40 : decode cX12_fundGoes 40 = .ok (.iinc 2 1, 3) := oc_132 (b := 1) (by decide +kernel)
theorem dX12_fundGoes_43 : decode cX12_fundGoes 43 = .ok (.goto (-41), 3) := oc_167 (a := 255) (b := 215) (by decide +kernel)
theorem dX12_fundGoes_21 : decode cX12_fundGoes 21 = .ok (.if_icmp .ne 19, 3) := oc_160 (a := 0) (b := 19) (by decide +kernel)
theorem dX12_fundGoes_24 : decode cX12_fundGoes 24 = .ok (.aload_n 0, 1) := oc_42 (by decide +kernel)
theorem dX12_fundGoes_25 : decode cX12_fundGoes 25 = .ok (.getfield 7, 3) := oc_180 (a := 0) (b := 7) (by decide +kernel)
theorem dX12_fundGoes_28 : decode cX12_fundGoes 28 = .ok (.bipush 8, 2) := oc_16 (a := 8) (by decide +kernel)
theorem dX12_fundGoes_30 : decode cX12_fundGoes 30 = .ok (.dup2, 1) := oc_92 (by decide +kernel)
theorem dX12_fundGoes_31 : decode cX12_fundGoes 31 = .ok (.iaload, 1) := oc_46 (by decide +kernel)
theorem dX12_fundGoes_32 : decode cX12_fundGoes 32 = .ok (.aload_n 0, 1) := oc_42 (by decide +kernel)
theorem dX12_fundGoes_33 : decode cX12_fundGoes 33 = .ok (.iload_n 2, 1) := oc_28 (by decide +kernel)
theorem dX12_fundGoes_34 : decode cX12_fundGoes 34 = .ok (.iconst 4, 1) := oc_7 (by decide +kernel)
theorem dX12_fundGoes_35 : decode cX12_fundGoes 35 = .ok (.invokevirtual 94, 3) := oc_182 (a := 0) (b := 94) (by decide +kernel)
theorem dX12_fundGoes_38 : decode cX12_fundGoes 38 = .ok (.iadd, 1) := oc_96 (by decide +kernel)
theorem dX12_fundGoes_39 : decode cX12_fundGoes 39 = .ok (.iastore, 1) := oc_79 (by decide +kernel)
theorem dX12_goesAhead_0 : decode cX12_goesAhead 0 = .ok (.aload_n 0, 1) := oc_42 (by decide +kernel)
theorem dX12_goesAhead_1 : decode cX12_goesAhead 1 = .ok (.getfield 328, 3) := oc_180 (a := 1) (b := 72) (by decide +kernel)
theorem dX12_goesAhead_4 : decode cX12_goesAhead 4 = .ok (.iconst 1, 1) := oc_4 (by decide +kernel)
theorem dX12_goesAhead_5 : decode cX12_goesAhead 5 = .ok (.if_icmp .ne 34, 3) := oc_160 (a := 0) (b := 34) (by decide +kernel)
theorem dX12_goesAhead_39 : decode cX12_goesAhead 39 = .ok (.iload 4, 2) := oc_21 (by decide +kernel)
theorem dX12_goesAhead_58 : decode cX12_goesAhead 58 = .ok (.iconst 0, 1) := oc_3 (by decide +kernel)
theorem dX12_goesAhead_59 : decode cX12_goesAhead 59 = .ok (.ireturn, 1) := oc_172 (by decide +kernel)
theorem dX12_goesAhead_41 : decode cX12_goesAhead 41 = .ok (.ifCond .eq 17, 3) := oc_153 (a := 0) (b := 17) (by decide +kernel)
theorem dX12_goesAhead_44 : decode cX12_goesAhead 44 = .ok (.aload_n 0, 1) := oc_42 (by decide +kernel)
theorem dX12_goesAhead_45 : decode cX12_goesAhead 45 = .ok (.iload_n 1, 1) := oc_27 (by decide +kernel)
theorem dX12_goesAhead_46 : decode cX12_goesAhead 46 = .ok (.iload_n 2, 1) := oc_28 (by decide +kernel)
theorem dX12_goesAhead_47 : decode cX12_goesAhead 47 = .ok (.iload_n 3, 1) := oc_29 (by decide +kernel)
theorem dX12_goesAhead_48 : decode cX12_goesAhead 48 = .ok (.invokevirtual 117, 3) := oc_182 (a := 0) (b := 117) (by decide +kernel)
theorem dX12_goesAhead_51 : decode cX12_goesAhead 51 = .ok (.ifCond .eq 7, 3) := oc_153 (a := 0) (b := 7) (by decide +kernel)
theorem dX12_goesAhead_54 : decode cX12_goesAhead 54 = .ok (.iconst 1, 1) := oc_4 (by decide +kernel)
theorem dX12_goesAhead_55 : decode cX12_goesAhead 55 = .ok (.goto 4, 3) := oc_167 (a := 0) (b := 4) (by decide +kernel)
theorem dX12_goesAhead_8 : decode cX12_goesAhead 8 = .ok (.aload_n 0, 1) := oc_42 (by decide +kernel)
theorem tw_186 : Cond.fieldLink RX12 40 "RingsUnderModel" "rankOf" "[I" ∈ wsL_law := sg_8 _ (List.mem_of_getElem? (i := 18) rfl)
theorem dX12_goesAhead_9 : decode cX12_goesAhead 9 = .ok (.getfield 40, 3) := oc_180 (a := 0) (b := 40) (by decide +kernel)
theorem dX12_goesAhead_12 : decode cX12_goesAhead 12 = .ok (.aload_n 0, 1) := oc_42 (by decide +kernel)
theorem dX12_goesAhead_13 : decode cX12_goesAhead 13 = .ok (.iload_n 1, 1) := oc_27 (by decide +kernel)
theorem dX12_goesAhead_14 : decode cX12_goesAhead 14 = .ok (.iconst 3, 1) := oc_6 (by decide +kernel)
theorem dX12_goesAhead_15 : decode cX12_goesAhead 15 = .ok (.invokevirtual 94, 3) := oc_182 (a := 0) (b := 94) (by decide +kernel)
theorem dX12_goesAhead_18 : decode cX12_goesAhead 18 = .ok (.iaload, 1) := oc_46 (by decide +kernel)
theorem dX12_goesAhead_19 : decode cX12_goesAhead 19 = .ok (.aload_n 0, 1) := oc_42 (by decide +kernel)
theorem dX12_goesAhead_20 : decode cX12_goesAhead 20 = .ok (.getfield 40, 3) := oc_180 (a := 0) (b := 40) (by decide +kernel)
theorem dX12_goesAhead_23 : decode cX12_goesAhead 23 = .ok (.aload_n 0, 1) := oc_42 (by decide +kernel)
theorem dX12_goesAhead_24 : decode cX12_goesAhead 24 = .ok (.iload_n 2, 1) := oc_28 (by decide +kernel)
theorem dX12_goesAhead_25 : decode cX12_goesAhead 25 = .ok (.iconst 3, 1) := oc_6 (by decide +kernel)
theorem dX12_goesAhead_26 : decode cX12_goesAhead 26 = .ok (.invokevirtual 94, 3) := oc_182 (a := 0) (b := 94) (by decide +kernel)
theorem dX12_goesAhead_29 : decode cX12_goesAhead 29 = .ok (.iaload, 1) := oc_46 (by decide +kernel)
theorem dX12_goesAhead_30 : decode cX12_goesAhead 30 = .ok (.if_icmp .ge 7, 3) := oc_162 (a := 0) (b := 7) (by decide +kernel)
theorem dX12_goesAhead_37 : decode cX12_goesAhead 37 = .ok (.iconst 0, 1) := oc_3 (by decide +kernel)
theorem dX12_goesAhead_38 : decode cX12_goesAhead 38 = .ok (.ireturn, 1) := oc_172 (by decide +kernel)
theorem dX12_goesAhead_33 : decode cX12_goesAhead 33 = .ok (.iconst 1, 1) := oc_4 (by decide +kernel)
theorem dX12_goesAhead_34 : decode cX12_goesAhead 34 = .ok (.goto 4, 3) := oc_167 (a := 0) (b := 4) (by decide +kernel)
theorem dX12_sails_0 : decode cX12_sails 0 = .ok (.aload_n 0, 1) := oc_42 (by decide +kernel)
theorem dX12_sails_1 : decode cX12_sails 1 = .ok (.getfield 7, 3) := oc_180 (a := 0) (b := 7) (by decide +kernel)
theorem dX12_sails_4 : decode cX12_sails 4 = .ok (.sipush 740, 3) := oc_17 (a := 2) (b := 228) (by decide +kernel)
theorem dX12_sails_7 : decode cX12_sails 7 = .ok (.bipush 12, 2) := oc_16 (a := 12) (by decide +kernel)
theorem dX12_sails_9 : decode cX12_sails 9 = .ok (.iload_n 1, 1) := oc_27 (by decide +kernel)
theorem dX12_sails_10 : decode cX12_sails 10 = .ok (.imul, 1) := oc_104 (by decide +kernel)
theorem dX12_sails_11 : decode cX12_sails 11 = .ok (.iadd, 1) := oc_96 (by decide +kernel)
theorem dX12_sails_12 : decode cX12_sails 12 = .ok (.iconst 3, 1) := oc_6 (by decide +kernel)
theorem dX12_sails_13 : decode cX12_sails 13 = .ok (.iadd, 1) := oc_96 (by decide +kernel)
theorem dX12_sails_14 : decode cX12_sails 14 = .ok (.bipush 100, 2) := oc_16 (a := 100) (by decide +kernel)
theorem dX12_sails_16 : decode cX12_sails 16 = .ok (.iload_n 2, 1) := oc_28 (by decide +kernel)
theorem dX12_sails_17 : decode cX12_sails 17 = .ok (.iadd, 1) := oc_96 (by decide +kernel)
theorem dX12_sails_18 : decode cX12_sails 18 = .ok (.iastore, 1) := oc_79 (by decide +kernel)
theorem dX12_sails_19 : decode cX12_sails 19 = .ok (.aload_n 0, 1) := oc_42 (by decide +kernel)
theorem dX12_sails_20 : decode cX12_sails 20 = .ok (.getfield 7, 3) := oc_180 (a := 0) (b := 7) (by decide +kernel)
theorem dX12_sails_23 : decode cX12_sails 23 = .ok (.sipush 740, 3) := oc_17 (a := 2) (b := 228) (by decide +kernel)
theorem dX12_sails_26 : decode cX12_sails 26 = .ok (.bipush 12, 2) := oc_16 (a := 12) (by decide +kernel)
theorem dX12_sails_28 : decode cX12_sails 28 = .ok (.iload_n 1, 1) := oc_27 (by decide +kernel)
theorem dX12_sails_29 : decode cX12_sails 29 = .ok (.imul, 1) := oc_104 (by decide +kernel)
theorem dX12_sails_30 : decode cX12_sails 30 = .ok (.iadd, 1) := oc_96 (by decide +kernel)
theorem dX12_sails_31 : decode cX12_sails 31 = .ok (.bipush 7, 2) := oc_16 (a := 7) (by decide +kernel)
theorem dX12_sails_33 : decode cX12_sails 33 = .ok (.iadd, 1) := oc_96 (by decide +kernel)
theorem dX12_sails_34 : decode cX12_sails 34 = .ok (.iload_n 3, 1) := oc_29 (by decide +kernel)
theorem dX12_sails_35 : decode cX12_sails 35 = .ok (.iastore, 1) := oc_79 (by decide +kernel)
theorem dX12_sails_36 : decode cX12_sails 36 = .ok (.return_, 1) := oc_177 (by decide +kernel)
theorem dX12_isOfKin_0 : decode cX12_isOfKin 0 = .ok (.iload_n 1, 1) := oc_27 (by decide +kernel)
theorem dX12_isOfKin_1 : decode cX12_isOfKin 1 = .ok (.iload_n 2, 1) := oc_28 (by decide +kernel)
theorem dX12_isOfKin_39 : decode cX12_isOfKin 39 = .ok (.iconst 1, 1) := oc_4 (by decide +kernel)
theorem dX12_isOfKin_40 : decode cX12_isOfKin 40 = .ok (.goto 4, 3) := oc_167 (a := 0) (b := 4) (by decide +kernel)
theorem dX12_isOfKin_44 : decode cX12_isOfKin 44 = .ok (.ireturn, 1) := oc_172 (by decide +kernel)
theorem dX12_isOfKin_2 : decode cX12_isOfKin 2 = .ok (.if_icmp .eq 37, 3) := oc_159 (a := 0) (b := 37) (by decide +kernel)
theorem dX12_isOfKin_5 : decode cX12_isOfKin 5 = .ok (.aload_n 0, 1) := oc_42 (by decide +kernel)
theorem tw_189 : Cond.fieldLink RX12 49 "RingsUnderModel" "looked" "[Z" ∈ wsL_law := sg_8 _ (List.mem_of_getElem? (i := 21) rfl)
theorem dX12_isOfKin_6 : decode cX12_isOfKin 6 = .ok (.getfield 49, 3) := oc_180 (a := 0) (b := 49) (by decide +kernel)
theorem dX12_isOfKin_9 : decode cX12_isOfKin 9 = .ok (.iload_n 1, 1) := oc_27 (by decide +kernel)
theorem dX12_isOfKin_10 : decode cX12_isOfKin 10 = .ok (.baload, 1) := oc_51 (by decide +kernel)
theorem dX12_isOfKin_43 : decode cX12_isOfKin 43 = .ok (.iconst 0, 1) := oc_3 (by decide +kernel)
theorem dX12_isOfKin_11 : decode cX12_isOfKin 11 = .ok (.ifCond .ne 32, 3) := oc_154 (a := 0) (b := 32) (by decide +kernel)
theorem dX12_isOfKin_14 : decode cX12_isOfKin 14 = .ok (.aload_n 0, 1) := oc_42 (by decide +kernel)
theorem dX12_isOfKin_15 : decode cX12_isOfKin 15 = .ok (.iload_n 1, 1) := oc_27 (by decide +kernel)
theorem dX12_isOfKin_16 : decode cX12_isOfKin 16 = .ok (.iconst 0, 1) := oc_3 (by decide +kernel)
theorem dX12_isOfKin_17 : decode cX12_isOfKin 17 = .ok (.invokevirtual 94, 3) := oc_182 (a := 0) (b := 94) (by decide +kernel)
theorem dX12_isOfKin_20 : decode cX12_isOfKin 20 = .ok (.aload_n 0, 1) := oc_42 (by decide +kernel)
theorem dX12_isOfKin_21 : decode cX12_isOfKin 21 = .ok (.iload_n 2, 1) := oc_28 (by decide +kernel)
theorem dX12_isOfKin_22 : decode cX12_isOfKin 22 = .ok (.iconst 0, 1) := oc_3 (by decide +kernel)
theorem dX12_isOfKin_23 : decode cX12_isOfKin 23 = .ok (.invokevirtual 94, 3) := oc_182 (a := 0) (b := 94) (by decide +kernel)
theorem dX12_isOfKin_26 : decode cX12_isOfKin 26 = .ok (.if_icmp .ne 17, 3) := oc_160 (a := 0) (b := 17) (by decide +kernel)
theorem dX12_isOfKin_29 : decode cX12_isOfKin 29 = .ok (.aload_n 0, 1) := oc_42 (by decide +kernel)
theorem dX12_isOfKin_30 : decode cX12_isOfKin 30 = .ok (.iload_n 1, 1) := oc_27 (by decide +kernel)
theorem dX12_isOfKin_31 : decode cX12_isOfKin 31 = .ok (.iconst 3, 1) := oc_6 (by decide +kernel)
theorem dX12_isOfKin_32 : decode cX12_isOfKin 32 = .ok (.invokevirtual 94, 3) := oc_182 (a := 0) (b := 94) (by decide +kernel)
theorem dX12_isOfKin_35 : decode cX12_isOfKin 35 = .ok (.iload_n 3, 1) := oc_29 (by decide +kernel)
theorem dX12_isOfKin_36 : decode cX12_isOfKin 36 = .ok (.if_icmp .ne 7, 3) := oc_160 (a := 0) (b := 7) (by decide +kernel)
theorem dX12_family_0 : decode cX12_family 0 = .ok (.aload_n 0, 1) := oc_42 (by decide +kernel)
theorem dX12_family_1 : decode cX12_family 1 = .ok (.iload_n 1, 1) := oc_27 (by decide +kernel)
theorem dX12_family_2 : decode cX12_family 2 = .ok (.iconst 3, 1) := oc_6 (by decide +kernel)
theorem dX12_family_3 : decode cX12_family 3 = .ok (.invokevirtual 94, 3) := oc_182 (a := 0) (b := 94) (by decide +kernel)
theorem dX12_family_6 : decode cX12_family 6 = .ok (.istore 4, 2) := oc_54 (by decide +kernel)
theorem dX12_family_8 : decode cX12_family 8 = .ok (.iconst 0, 1) := oc_3 (by decide +kernel)
theorem dX12_family_9 : decode cX12_family 9 = .ok (.istore 5, 2) := oc_54 (by decide +kernel)
theorem dX12_family_11 : decode cX12_family 11 = .ok (.iconst 0, 1) := oc_3 (by decide +kernel)
theorem dX12_family_12 : decode cX12_family 12 = .ok (.istore 6, 2) := oc_54 (by decide +kernel)
theorem dX12_family_14 : decode cX12_family 14 = .ok (.iload 6, 2) := oc_21 (by decide +kernel)
theorem dX12_family_16 : decode cX12_family 16 = .ok (.aload_n 0, 1) := oc_42 (by decide +kernel)
theorem dX12_family_17 : decode cX12_family 17 = .ok (.getfield 7, 3) := oc_180 (a := 0) (b := 7) (by decide +kernel)
theorem dX12_family_20 : decode cX12_family 20 = .ok (.iconst 5, 1) := oc_8 (by decide +kernel)
theorem dX12_family_21 : decode cX12_family 21 = .ok (.iaload, 1) := oc_46 (by decide +kernel)
theorem dX12_family_22 : decode cX12_family 22 = .ok (.if_icmp .ge 31, 3) := oc_162 (a := 0) (b := 31) (by decide +kernel)
theorem dX12_family_53 : decode cX12_family 53 = .ok (.iconst 0, 1) := oc_3 (by decide +kernel)
theorem dX12_family_54 : decode cX12_family 54 = .ok (.istore 6, 2) := oc_54 (by decide +kernel)
theorem dX12_family_56 : decode cX12_family 56 = .ok (.iload 6, 2) := oc_21 (by decide +kernel)
theorem dX12_family_58 : decode cX12_family 58 = .ok (.aload_n 0, 1) := oc_42 (by decide +kernel)
theorem dX12_family_59 : decode cX12_family 59 = .ok (.getfield 7, 3) := oc_180 (a := 0) (b := 7) (by decide +kernel)
theorem dX12_family_62 : decode cX12_family 62 = .ok (.iconst 4, 1) := oc_7 (by decide +kernel)
theorem dX12_family_63 : decode cX12_family 63 = .ok (.iaload, 1) := oc_46 (by decide +kernel)
theorem dX12_family_84 : decode cX12_family 84 = .ok (.iload 5, 2) := oc_21 (by decide +kernel)
theorem dX12_family_86 : decode cX12_family 86 = .ok (.iload_n 3, 1) := oc_29 (by decide +kernel)
theorem dX12_family_106 : decode cX12_family 106 = .ok (.istore 7, 2) := oc_54 (by decide +kernel)
theorem dX12_family_108 : decode cX12_family 108 = .ok (.iconst 0, 1) := oc_3 (by decide +kernel)
theorem dX12_family_109 : decode cX12_family 109 = .ok (.istore 8, 2) := oc_54 (by decide +kernel)
theorem dX12_family_111 : decode cX12_family 111 = .ok (.iload 8, 2) := oc_21 (by decide +kernel)
theorem dX12_family_113 : decode cX12_family 113 = .ok (.aload_n 0, 1) := oc_42 (by decide +kernel)
theorem dX12_family_114 : decode cX12_family 114 = .ok (.getfield 7, 3) := oc_180 (a := 0) (b := 7) (by decide +kernel)
theorem dX12_family_117 : decode cX12_family 117 = .ok (.iconst 5, 1) := oc_8 (by decide +kernel)
theorem dX12_family_118 : decode cX12_family 118 = .ok (.iaload, 1) := oc_46 (by decide +kernel)
theorem dX12_family_119 : decode cX12_family 119 = .ok (.if_icmp .ge 55, 3) := oc_162 (a := 0) (b := 55) (by decide +kernel)
theorem dX12_family_174 : decode cX12_family 174 = .ok (.iload 7, 2) := oc_21 (by decide +kernel)
theorem dX12_family_187 : decode cX12_family 187 = .ok (.iload 7, 2) := oc_21 (by decide +kernel)
theorem dX12_family_189 : decode cX12_family 189 = .ok (.ifCond .eq 8, 3) := oc_153 (a := 0) (b := 8) (by decide +kernel)
theorem dX12_family_192 : decode cX12_family 192 = .ok (.iload 5, 2) := oc_21 (by decide +kernel)
theorem dX12_family_194 : decode cX12_family 194 = .ok (.goto 4, 3) := oc_167 (a := 0) (b := 4) (by decide +kernel)
theorem dX12_family_198 : decode cX12_family 198 = .ok (.ireturn, 1) := oc_172 (by decide +kernel)
theorem dX12_family_176 : decode cX12_family 176 = .ok (.ifCond .eq 11, 3) := oc_153 (a := 0) (b := 11) (by decide +kernel)
theorem dX12_family_179 : decode cX12_family 179 = .ok (.aload_n 0, 1) := oc_42 (by decide +kernel)
theorem dX12_family_180 : decode cX12_family 180 = .ok (.iload_n 1, 1) := oc_27 (by decide +kernel)
theorem dX12_family_181 : decode cX12_family 181 = .ok (.iload 6, 2) := oc_21 (by decide +kernel)
theorem dX12_family_183 : decode cX12_family 183 = .ok (.iload_n 2, 1) := oc_28 (by decide +kernel)
theorem tw_1263 : Cond.methodLink RX12 344 yX12_sails ∈ wsL_law := sg_53 _ (List.mem_of_getElem? (i := 15) rfl)
theorem tw_1264 : Cond.instanceMethod yX12_sails ∈ wsL_law := sg_53 _ (List.mem_of_getElem? (i := 16) rfl)
theorem tw_1265 : Cond.selects RX12 yX12_sails yX12_sails ∈ wsL_law := sg_53 _ (List.mem_of_getElem? (i := 17) rfl)
theorem tw_1266 : Cond.code yX12_sails cX12_sails 4 none ∈ wsL_law := sg_53 _ (List.mem_of_getElem? (i := 18) rfl)
theorem dX12_family_184 : decode cX12_family 184 = .ok (.invokevirtual 344, 3) := oc_182 (a := 1) (b := 88) (by decide +kernel)
theorem dX12_family_122 : decode cX12_family 122 = .ok (.aload_n 0, 1) := oc_42 (by decide +kernel)
theorem dX12_family_123 : decode cX12_family 123 = .ok (.iload 8, 2) := oc_21 (by decide +kernel)
theorem dX12_family_125 : decode cX12_family 125 = .ok (.iload_n 1, 1) := oc_27 (by decide +kernel)
theorem dX12_family_126 : decode cX12_family 126 = .ok (.iload 4, 2) := oc_21 (by decide +kernel)
theorem tw_1259 : Cond.methodLink RX12 341 yX12_isOfKin ∈ wsL_law := sg_53 _ (List.mem_of_getElem? (i := 11) rfl)
theorem tw_1260 : Cond.instanceMethod yX12_isOfKin ∈ wsL_law := sg_53 _ (List.mem_of_getElem? (i := 12) rfl)
theorem tw_1261 : Cond.selects RX12 yX12_isOfKin yX12_isOfKin ∈ wsL_law := sg_53 _ (List.mem_of_getElem? (i := 13) rfl)
theorem tw_1262 : Cond.code yX12_isOfKin cX12_isOfKin 4 (some .boolean) ∈ wsL_law := sg_53 _ (List.mem_of_getElem? (i := 14) rfl)
theorem dX12_family_128 : decode cX12_family 128 = .ok (.invokevirtual 341, 3) := oc_182 (a := 1) (b := 85) (by decide +kernel)
theorem dX12_family_168 : decode cX12_family 168 = .ok (.iinc 8 1, 3) := oc_132 (b := 1) (by decide +kernel)
theorem dX12_family_171 : decode cX12_family 171 = .ok (.goto (-60), 3) := oc_167 (a := 255) (b := 196) (by decide +kernel)
theorem dX12_family_131 : decode cX12_family 131 = .ok (.ifCond .ne 6, 3) := oc_154 (a := 0) (b := 6) (by decide +kernel)
theorem dX12_family_137 : decode cX12_family 137 = .ok (.aload_n 0, 1) := oc_42 (by decide +kernel)
theorem dX12_family_138 : decode cX12_family 138 = .ok (.getfield 49, 3) := oc_180 (a := 0) (b := 49) (by decide +kernel)
theorem dX12_family_141 : decode cX12_family 141 = .ok (.iload 8, 2) := oc_21 (by decide +kernel)
theorem dX12_family_143 : decode cX12_family 143 = .ok (.iconst 1, 1) := oc_4 (by decide +kernel)
theorem dX12_family_144 : decode cX12_family 144 = .ok (.bastore, 1) := oc_84 (by decide +kernel)
theorem dX12_family_145 : decode cX12_family 145 = .ok (.iload 8, 2) := oc_21 (by decide +kernel)
theorem dX12_family_147 : decode cX12_family 147 = .ok (.iload_n 1, 1) := oc_27 (by decide +kernel)
theorem dX12_family_148 : decode cX12_family 148 = .ok (.if_icmp .ne 6, 3) := oc_160 (a := 0) (b := 6) (by decide +kernel)
theorem dX12_family_154 : decode cX12_family 154 = .ok (.iload 7, 2) := oc_21 (by decide +kernel)
theorem dX12_family_156 : decode cX12_family 156 = .ok (.ifCond .eq 12, 3) := oc_153 (a := 0) (b := 12) (by decide +kernel)
theorem dX12_family_159 : decode cX12_family 159 = .ok (.aload_n 0, 1) := oc_42 (by decide +kernel)
theorem dX12_family_160 : decode cX12_family 160 = .ok (.iload 8, 2) := oc_21 (by decide +kernel)
theorem dX12_family_162 : decode cX12_family 162 = .ok (.iload 6, 2) := oc_21 (by decide +kernel)
theorem dX12_family_164 : decode cX12_family 164 = .ok (.iload_n 2, 1) := oc_28 (by decide +kernel)
theorem dX12_family_165 : decode cX12_family 165 = .ok (.invokevirtual 344, 3) := oc_182 (a := 1) (b := 88) (by decide +kernel)
theorem dX12_family_151 : decode cX12_family 151 = .ok (.goto 17, 3) := oc_167 (a := 0) (b := 17) (by decide +kernel)
theorem dX12_family_134 : decode cX12_family 134 = .ok (.goto 34, 3) := oc_167 (a := 0) (b := 34) (by decide +kernel)
theorem dX12_family_197 : decode cX12_family 197 = .ok (.iconst 0, 1) := oc_3 (by decide +kernel)
theorem dX12_family_105 : decode cX12_family 105 = .ok (.iconst 0, 1) := oc_3 (by decide +kernel)
theorem dX12_family_87 : decode cX12_family 87 = .ok (.if_icmp .gt 18, 3) := oc_163 (a := 0) (b := 18) (by decide +kernel)
theorem dX12_family_90 : decode cX12_family 90 = .ok (.iload 6, 2) := oc_21 (by decide +kernel)
theorem dX12_family_92 : decode cX12_family 92 = .ok (.aload_n 0, 1) := oc_42 (by decide +kernel)
theorem dX12_family_93 : decode cX12_family 93 = .ok (.getfield 7, 3) := oc_180 (a := 0) (b := 7) (by decide +kernel)
theorem dX12_family_96 : decode cX12_family 96 = .ok (.iconst 4, 1) := oc_7 (by decide +kernel)
theorem dX12_family_97 : decode cX12_family 97 = .ok (.iaload, 1) := oc_46 (by decide +kernel)
theorem dX12_family_98 : decode cX12_family 98 = .ok (.if_icmp .ge 7, 3) := oc_162 (a := 0) (b := 7) (by decide +kernel)
theorem dX12_family_101 : decode cX12_family 101 = .ok (.iconst 1, 1) := oc_4 (by decide +kernel)
theorem dX12_family_102 : decode cX12_family 102 = .ok (.goto 4, 3) := oc_167 (a := 0) (b := 4) (by decide +kernel)
theorem dX12_family_64 : decode cX12_family 64 = .ok (.if_icmp .ge 20, 3) := oc_162 (a := 0) (b := 20) (by decide +kernel)
theorem dX12_family_67 : decode cX12_family 67 = .ok (.aload_n 0, 1) := oc_42 (by decide +kernel)
theorem dX12_family_68 : decode cX12_family 68 = .ok (.iload 6, 2) := oc_21 (by decide +kernel)
theorem dX12_family_70 : decode cX12_family 70 = .ok (.invokevirtual 110, 3) := oc_182 (a := 0) (b := 110) (by decide +kernel)
theorem dX12_family_73 : decode cX12_family 73 = .ok (.iload 5, 2) := oc_21 (by decide +kernel)
theorem dX12_family_75 : decode cX12_family 75 = .ok (.if_icmp .ge 9, 3) := oc_162 (a := 0) (b := 9) (by decide +kernel)
theorem dX12_family_78 : decode cX12_family 78 = .ok (.iinc 6 1, 3) := oc_132 (b := 1) (by decide +kernel)
theorem dX12_family_81 : decode cX12_family 81 = .ok (.goto (-25), 3) := oc_167 (a := 255) (b := 231) (by decide +kernel)
theorem dX12_family_25 : decode cX12_family 25 = .ok (.iload 5, 2) := oc_21 (by decide +kernel)
theorem dX12_family_27 : decode cX12_family 27 = .ok (.aload_n 0, 1) := oc_42 (by decide +kernel)
theorem dX12_family_28 : decode cX12_family 28 = .ok (.iload 6, 2) := oc_21 (by decide +kernel)
theorem dX12_family_30 : decode cX12_family 30 = .ok (.iload_n 1, 1) := oc_27 (by decide +kernel)
theorem dX12_family_31 : decode cX12_family 31 = .ok (.iload 4, 2) := oc_21 (by decide +kernel)
theorem dX12_family_33 : decode cX12_family 33 = .ok (.invokevirtual 341, 3) := oc_182 (a := 1) (b := 85) (by decide +kernel)
theorem dX12_family_44 : decode cX12_family 44 = .ok (.iadd, 1) := oc_96 (by decide +kernel)
theorem dX12_family_45 : decode cX12_family 45 = .ok (.istore 5, 2) := oc_54 (by decide +kernel)
theorem dX12_family_47 : decode cX12_family 47 = .ok (.iinc 6 1, 3) := oc_132 (b := 1) (by decide +kernel)
theorem dX12_family_50 : decode cX12_family 50 = .ok (.goto (-36), 3) := oc_167 (a := 255) (b := 220) (by decide +kernel)
theorem dX12_family_36 : decode cX12_family 36 = .ok (.ifCond .eq 7, 3) := oc_153 (a := 0) (b := 7) (by decide +kernel)
theorem dX12_family_43 : decode cX12_family 43 = .ok (.iconst 0, 1) := oc_3 (by decide +kernel)
theorem dX12_family_39 : decode cX12_family 39 = .ok (.iconst 1, 1) := oc_4 (by decide +kernel)
theorem dX12_family_40 : decode cX12_family 40 = .ok (.goto 4, 3) := oc_167 (a := 0) (b := 4) (by decide +kernel)
theorem dX12_boatsGo_0 : decode cX12_boatsGo 0 = .ok (.aload_n 0, 1) := oc_42 (by decide +kernel)
theorem dX12_boatsGo_1 : decode cX12_boatsGo 1 = .ok (.iconst 5, 1) := oc_8 (by decide +kernel)
theorem dX12_boatsGo_2 : decode cX12_boatsGo 2 = .ok (.iload_n 1, 1) := oc_27 (by decide +kernel)
theorem dX12_boatsGo_3 : decode cX12_boatsGo 3 = .ok (.invokevirtual 113, 3) := oc_182 (a := 0) (b := 113) (by decide +kernel)
theorem dX12_boatsGo_6 : decode cX12_boatsGo 6 = .ok (.istore_n 2, 1) := oc_61 (by decide +kernel)
theorem dX12_boatsGo_7 : decode cX12_boatsGo 7 = .ok (.iconst 0, 1) := oc_3 (by decide +kernel)
theorem dX12_boatsGo_8 : decode cX12_boatsGo 8 = .ok (.istore_n 3, 1) := oc_62 (by decide +kernel)
theorem dX12_boatsGo_9 : decode cX12_boatsGo 9 = .ok (.iconst 0, 1) := oc_3 (by decide +kernel)
theorem dX12_boatsGo_10 : decode cX12_boatsGo 10 = .ok (.istore 4, 2) := oc_54 (by decide +kernel)
theorem dX12_boatsGo_12 : decode cX12_boatsGo 12 = .ok (.iload 4, 2) := oc_21 (by decide +kernel)
theorem dX12_boatsGo_14 : decode cX12_boatsGo 14 = .ok (.aload_n 0, 1) := oc_42 (by decide +kernel)
theorem dX12_boatsGo_15 : decode cX12_boatsGo 15 = .ok (.getfield 7, 3) := oc_180 (a := 0) (b := 7) (by decide +kernel)
theorem dX12_boatsGo_18 : decode cX12_boatsGo 18 = .ok (.iconst 5, 1) := oc_8 (by decide +kernel)
theorem dX12_boatsGo_19 : decode cX12_boatsGo 19 = .ok (.iaload, 1) := oc_46 (by decide +kernel)
theorem dX12_boatsGo_20 : decode cX12_boatsGo 20 = .ok (.if_icmp .ge 110, 3) := oc_162 (a := 0) (b := 110) (by decide +kernel)
theorem dX12_boatsGo_130 : decode cX12_boatsGo 130 = .ok (.aload_n 0, 1) := oc_42 (by decide +kernel)
theorem dX12_boatsGo_131 : decode cX12_boatsGo 131 = .ok (.getfield 7, 3) := oc_180 (a := 0) (b := 7) (by decide +kernel)
theorem dX12_boatsGo_134 : decode cX12_boatsGo 134 = .ok (.bipush 11, 2) := oc_16 (a := 11) (by decide +kernel)
theorem dX12_boatsGo_136 : decode cX12_boatsGo 136 = .ok (.iaload, 1) := oc_46 (by decide +kernel)
theorem dX12_boatsGo_137 : decode cX12_boatsGo 137 = .ok (.istore 4, 2) := oc_54 (by decide +kernel)
theorem dX12_boatsGo_139 : decode cX12_boatsGo 139 = .ok (.iconst 0, 1) := oc_3 (by decide +kernel)
theorem dX12_boatsGo_140 : decode cX12_boatsGo 140 = .ok (.istore 5, 2) := oc_54 (by decide +kernel)
theorem dX12_boatsGo_142 : decode cX12_boatsGo 142 = .ok (.iload 5, 2) := oc_21 (by decide +kernel)
theorem dX12_boatsGo_144 : decode cX12_boatsGo 144 = .ok (.iload_n 3, 1) := oc_29 (by decide +kernel)
theorem dX12_boatsGo_145 : decode cX12_boatsGo 145 = .ok (.if_icmp .ge 43, 3) := oc_162 (a := 0) (b := 43) (by decide +kernel)
theorem dX12_boatsGo_188 : decode cX12_boatsGo 188 = .ok (.return_, 1) := oc_177 (by decide +kernel)
theorem dX12_boatsGo_148 : decode cX12_boatsGo 148 = .ok (.aload_n 0, 1) := oc_42 (by decide +kernel)
theorem dX12_boatsGo_149 : decode cX12_boatsGo 149 = .ok (.getfield 49, 3) := oc_180 (a := 0) (b := 49) (by decide +kernel)
theorem dX12_boatsGo_152 : decode cX12_boatsGo 152 = .ok (.aload_n 0, 1) := oc_42 (by decide +kernel)
theorem tw_188 : Cond.fieldLink RX12 46 "RingsUnderModel" "row" "[I" ∈ wsL_law := sg_8 _ (List.mem_of_getElem? (i := 20) rfl)
theorem dX12_boatsGo_153 : decode cX12_boatsGo 153 = .ok (.getfield 46, 3) := oc_180 (a := 0) (b := 46) (by decide +kernel)
theorem dX12_boatsGo_156 : decode cX12_boatsGo 156 = .ok (.iload 5, 2) := oc_21 (by decide +kernel)
theorem dX12_boatsGo_158 : decode cX12_boatsGo 158 = .ok (.iaload, 1) := oc_46 (by decide +kernel)
theorem dX12_boatsGo_159 : decode cX12_boatsGo 159 = .ok (.baload, 1) := oc_51 (by decide +kernel)
theorem dX12_boatsGo_182 : decode cX12_boatsGo 182 = .ok (.iinc 5 1, 3) := oc_132 (b := 1) (by decide +kernel)
theorem dX12_boatsGo_185 : decode cX12_boatsGo 185 = .ok (.goto (-43), 3) := oc_167 (a := 255) (b := 213) (by decide +kernel)
theorem dX12_boatsGo_160 : decode cX12_boatsGo 160 = .ok (.ifCond .ne 22, 3) := oc_154 (a := 0) (b := 22) (by decide +kernel)
theorem dX12_boatsGo_163 : decode cX12_boatsGo 163 = .ok (.iload 4, 2) := oc_21 (by decide +kernel)
theorem dX12_boatsGo_165 : decode cX12_boatsGo 165 = .ok (.aload_n 0, 1) := oc_42 (by decide +kernel)
theorem dX12_boatsGo_166 : decode cX12_boatsGo 166 = .ok (.aload_n 0, 1) := oc_42 (by decide +kernel)
theorem dX12_boatsGo_167 : decode cX12_boatsGo 167 = .ok (.getfield 46, 3) := oc_180 (a := 0) (b := 46) (by decide +kernel)
theorem dX12_boatsGo_170 : decode cX12_boatsGo 170 = .ok (.iload 5, 2) := oc_21 (by decide +kernel)
theorem dX12_boatsGo_172 : decode cX12_boatsGo 172 = .ok (.iaload, 1) := oc_46 (by decide +kernel)
theorem dX12_boatsGo_173 : decode cX12_boatsGo 173 = .ok (.iload_n 1, 1) := oc_27 (by decide +kernel)
theorem dX12_boatsGo_174 : decode cX12_boatsGo 174 = .ok (.iload 4, 2) := oc_21 (by decide +kernel)
theorem tw_1255 : Cond.methodLink RX12 338 yX12_family ∈ wsL_law := sg_53 _ (List.mem_of_getElem? (i := 7) rfl)
theorem tw_1256 : Cond.instanceMethod yX12_family ∈ wsL_law := sg_53 _ (List.mem_of_getElem? (i := 8) rfl)
theorem tw_1257 : Cond.selects RX12 yX12_family yX12_family ∈ wsL_law := sg_53 _ (List.mem_of_getElem? (i := 9) rfl)
theorem tw_1258 : Cond.code yX12_family cX12_family 9 (some .int) ∈ wsL_law := sg_53 _ (List.mem_of_getElem? (i := 10) rfl)
theorem dX12_boatsGo_176 : decode cX12_boatsGo 176 = .ok (.invokevirtual 338, 3) := oc_182 (a := 1) (b := 82) (by decide +kernel)
theorem dX12_boatsGo_179 : decode cX12_boatsGo 179 = .ok (.isub, 1) := oc_100 (by decide +kernel)
theorem dX12_boatsGo_180 : decode cX12_boatsGo 180 = .ok (.istore 4, 2) := oc_54 (by decide +kernel)
theorem dX12_boatsGo_23 : decode cX12_boatsGo 23 = .ok (.aload_n 0, 1) := oc_42 (by decide +kernel)
theorem dX12_boatsGo_24 : decode cX12_boatsGo 24 = .ok (.getfield 49, 3) := oc_180 (a := 0) (b := 49) (by decide +kernel)
theorem dX12_boatsGo_27 : decode cX12_boatsGo 27 = .ok (.iload 4, 2) := oc_21 (by decide +kernel)
theorem dX12_boatsGo_29 : decode cX12_boatsGo 29 = .ok (.iconst 1, 1) := oc_4 (by decide +kernel)
theorem dX12_boatsGo_30 : decode cX12_boatsGo 30 = .ok (.bastore, 1) := oc_84 (by decide +kernel)
theorem dX12_boatsGo_31 : decode cX12_boatsGo 31 = .ok (.aload_n 0, 1) := oc_42 (by decide +kernel)
theorem dX12_boatsGo_32 : decode cX12_boatsGo 32 = .ok (.iload 4, 2) := oc_21 (by decide +kernel)
theorem dX12_boatsGo_34 : decode cX12_boatsGo 34 = .ok (.invokevirtual 316, 3) := oc_182 (a := 1) (b := 60) (by decide +kernel)
theorem dX12_boatsGo_37 : decode cX12_boatsGo 37 = .ok (.ifCond .eq 87, 3) := oc_153 (a := 0) (b := 87) (by decide +kernel)
theorem dX12_boatsGo_124 : decode cX12_boatsGo 124 = .ok (.iinc 4 1, 3) := oc_132 (b := 1) (by decide +kernel)
theorem dX12_boatsGo_127 : decode cX12_boatsGo 127 = .ok (.goto (-115), 3) := oc_167 (a := 255) (b := 141) (by decide +kernel)
theorem dX12_boatsGo_40 : decode cX12_boatsGo 40 = .ok (.aload_n 0, 1) := oc_42 (by decide +kernel)
theorem dX12_boatsGo_41 : decode cX12_boatsGo 41 = .ok (.iconst 3, 1) := oc_6 (by decide +kernel)
theorem dX12_boatsGo_42 : decode cX12_boatsGo 42 = .ok (.iload 4, 2) := oc_21 (by decide +kernel)
theorem dX12_boatsGo_44 : decode cX12_boatsGo 44 = .ok (.iload_n 1, 1) := oc_27 (by decide +kernel)
theorem dX12_boatsGo_45 : decode cX12_boatsGo 45 = .ok (.invokevirtual 301, 3) := oc_182 (a := 1) (b := 45) (by decide +kernel)
theorem dX12_boatsGo_48 : decode cX12_boatsGo 48 = .ok (.ifCond .ne 6, 3) := oc_154 (a := 0) (b := 6) (by decide +kernel)
theorem dX12_boatsGo_54 : decode cX12_boatsGo 54 = .ok (.aload_n 0, 1) := oc_42 (by decide +kernel)
theorem dX12_boatsGo_55 : decode cX12_boatsGo 55 = .ok (.getfield 49, 3) := oc_180 (a := 0) (b := 49) (by decide +kernel)
theorem dX12_boatsGo_58 : decode cX12_boatsGo 58 = .ok (.iload 4, 2) := oc_21 (by decide +kernel)
theorem dX12_boatsGo_60 : decode cX12_boatsGo 60 = .ok (.iconst 0, 1) := oc_3 (by decide +kernel)
theorem dX12_boatsGo_61 : decode cX12_boatsGo 61 = .ok (.bastore, 1) := oc_84 (by decide +kernel)
theorem dX12_boatsGo_62 : decode cX12_boatsGo 62 = .ok (.iload_n 3, 1) := oc_29 (by decide +kernel)
theorem dX12_boatsGo_63 : decode cX12_boatsGo 63 = .ok (.istore 5, 2) := oc_54 (by decide +kernel)
theorem dX12_boatsGo_65 : decode cX12_boatsGo 65 = .ok (.iload 5, 2) := oc_21 (by decide +kernel)
theorem dX12_boatsGo_112 : decode cX12_boatsGo 112 = .ok (.aload_n 0, 1) := oc_42 (by decide +kernel)
theorem dX12_boatsGo_113 : decode cX12_boatsGo 113 = .ok (.getfield 46, 3) := oc_180 (a := 0) (b := 46) (by decide +kernel)
theorem dX12_boatsGo_116 : decode cX12_boatsGo 116 = .ok (.iload 5, 2) := oc_21 (by decide +kernel)
theorem dX12_boatsGo_118 : decode cX12_boatsGo 118 = .ok (.iload 4, 2) := oc_21 (by decide +kernel)
theorem dX12_boatsGo_120 : decode cX12_boatsGo 120 = .ok (.iastore, 1) := oc_79 (by decide +kernel)
theorem dX12_boatsGo_121 : decode cX12_boatsGo 121 = .ok (.iinc 3 1, 3) := oc_132 (b := 1) (by decide +kernel)
theorem dX12_boatsGo_67 : decode cX12_boatsGo 67 = .ok (.ifCond .le 45, 3) := oc_158 (a := 0) (b := 45) (by decide +kernel)
theorem dX12_boatsGo_70 : decode cX12_boatsGo 70 = .ok (.aload_n 0, 1) := oc_42 (by decide +kernel)
theorem dX12_boatsGo_71 : decode cX12_boatsGo 71 = .ok (.iload 4, 2) := oc_21 (by decide +kernel)
theorem dX12_boatsGo_73 : decode cX12_boatsGo 73 = .ok (.aload_n 0, 1) := oc_42 (by decide +kernel)
theorem dX12_boatsGo_74 : decode cX12_boatsGo 74 = .ok (.getfield 46, 3) := oc_180 (a := 0) (b := 46) (by decide +kernel)
theorem dX12_boatsGo_77 : decode cX12_boatsGo 77 = .ok (.iload 5, 2) := oc_21 (by decide +kernel)
theorem dX12_boatsGo_79 : decode cX12_boatsGo 79 = .ok (.iconst 1, 1) := oc_4 (by decide +kernel)
theorem dX12_boatsGo_80 : decode cX12_boatsGo 80 = .ok (.isub, 1) := oc_100 (by decide +kernel)
theorem dX12_boatsGo_81 : decode cX12_boatsGo 81 = .ok (.iaload, 1) := oc_46 (by decide +kernel)
theorem dX12_boatsGo_82 : decode cX12_boatsGo 82 = .ok (.iload_n 1, 1) := oc_27 (by decide +kernel)
theorem dX12_boatsGo_83 : decode cX12_boatsGo 83 = .ok (.iload_n 2, 1) := oc_28 (by decide +kernel)
theorem tw_1251 : Cond.methodLink RX12 334 yX12_goesAhead ∈ wsL_law := sg_53 _ (List.mem_of_getElem? (i := 3) rfl)
theorem tw_1252 : Cond.instanceMethod yX12_goesAhead ∈ wsL_law := sg_53 _ (List.mem_of_getElem? (i := 4) rfl)
theorem tw_1253 : Cond.selects RX12 yX12_goesAhead yX12_goesAhead ∈ wsL_law := sg_53 _ (List.mem_of_getElem? (i := 5) rfl)
theorem tw_1254 : Cond.code yX12_goesAhead cX12_goesAhead 5 (some .boolean) ∈ wsL_law := sg_53 _ (List.mem_of_getElem? (i := 6) rfl)
theorem dX12_boatsGo_84 : decode cX12_boatsGo 84 = .ok (.invokevirtual 334, 3) := oc_182 (a := 1) (b := 78) (by decide +kernel)
theorem dX12_boatsGo_87 : decode cX12_boatsGo 87 = .ok (.ifCond .eq 25, 3) := oc_153 (a := 0) (b := 25) (by decide +kernel)
theorem dX12_boatsGo_90 : decode cX12_boatsGo 90 = .ok (.aload_n 0, 1) := oc_42 (by decide +kernel)
theorem dX12_boatsGo_91 : decode cX12_boatsGo 91 = .ok (.getfield 46, 3) := oc_180 (a := 0) (b := 46) (by decide +kernel)
theorem dX12_boatsGo_94 : decode cX12_boatsGo 94 = .ok (.iload 5, 2) := oc_21 (by decide +kernel)
theorem dX12_boatsGo_96 : decode cX12_boatsGo 96 = .ok (.aload_n 0, 1) := oc_42 (by decide +kernel)
theorem dX12_boatsGo_97 : decode cX12_boatsGo 97 = .ok (.getfield 46, 3) := oc_180 (a := 0) (b := 46) (by decide +kernel)
theorem dX12_boatsGo_100 : decode cX12_boatsGo 100 = .ok (.iload 5, 2) := oc_21 (by decide +kernel)
theorem dX12_boatsGo_102 : decode cX12_boatsGo 102 = .ok (.iconst 1, 1) := oc_4 (by decide +kernel)
theorem dX12_boatsGo_103 : decode cX12_boatsGo 103 = .ok (.isub, 1) := oc_100 (by decide +kernel)
theorem dX12_boatsGo_104 : decode cX12_boatsGo 104 = .ok (.iaload, 1) := oc_46 (by decide +kernel)
theorem dX12_boatsGo_105 : decode cX12_boatsGo 105 = .ok (.iastore, 1) := oc_79 (by decide +kernel)
theorem dX12_boatsGo_106 : decode cX12_boatsGo 106 = .ok (.iinc 5 (-1), 3) := oc_132 (b := 255) (by decide +kernel)
theorem dX12_boatsGo_109 : decode cX12_boatsGo 109 = .ok (.goto (-44), 3) := oc_167 (a := 255) (b := 212) (by decide +kernel)
theorem dX12_boatsGo_51 : decode cX12_boatsGo 51 = .ok (.goto 73, 3) := oc_167 (a := 0) (b := 73) (by decide +kernel)
set_option maxHeartbeats 4000000 in
set_option maxRecDepth 100000 in
theorem s_X12_fundGoes (l : Launch) (D : va_G) (t : pq_T) (σ : pq_S) (I : Nat → Nat → Int32) (J : Nat → Nat → Int64) (ri : Nat → Nat → Int32) (rj : Nat → Nat → Int64) (rq : Nat → Nat → Option Nat) (sz : Nat) (tg : Nat → Nat) (hSH : SH σ tg) (hG0 : GT tg I ri) (this : Nat) (a0 : Int32) (hL_this : this ∈ σ.1) (hK_this : σ.2.1 this = 12) (h_a0 : rg a0 0 599) : MetV l yX12_fundGoes (wa yX12_fundGoes cX12_fundGoes 3 none) ({ frames := 5, cells := 0, slots := 0, locals := 122 }) [.ref this, .int a0] D t σ (I, J, ri, rj, rq) sz 0 0 (fun (u : pq_S × pq_M) => ∃ I' : Nat → Nat → Int32, ∃ ri' : Nat → Nat → Int32, u = (σ, I', J, ri', rj, rq) ∧ GM [] tg σ I ri I' ri' rq) := by
  refine Met.ofW (cc := cX12_fundGoes) (maxL := 3) (ret := none) (by decide) rfl ?_
  intro p e s m args below meth c s₁ B hml hv
  obtain ⟨rfl, hsz, hP, hK, hD0, hN⟩ := hv
  have hx := B.exec
  have hb := B.bytes
  have hr := B.returns
  have hts := atoms_spec (ws := (wa yX12_fundGoes cX12_fundGoes 3 none)) B.pre
  have hown : s.vm.findClass RX12 = some m.cls := findClass_of_methodNamed B.named
  have hlocks := B.notSynchronized
  subst hsz
  have hD : va_D (pq_B t σ (I, J, ri, rj, rq) s.heap.size) (pq_P t σ (I, J, ri, rj, rq)) := hD0.self
  generalize hAe : pq_B t σ (I, J, ri, rj, rq) s.heap.size = A at hD ⊢
  have hA : ∀ q : Nat, s.heap.size ≤ q → A q := fun q h => by rw [← hAe]; exact Or.inr h
  have hS : va_S A s.heap s.heap [] := va_S.rf
  have hG : GM [] tg σ I ri I ri rq := ⟨hG0, fun _ _ _ => rfl, fun _ _ _ _ _ => rfl, fun _ _ _ _ _ _ => rfl⟩
  have hl := lv_entry ([.ref this, .int a0]) (n := 3) (Nat.le_of_ble_eq_true rfl)
  rw [lg_entry_eq]
  generalize (lg_sl ([.ref this, .int a0]) ++ List.replicate (3 - (lg_sl ([.ref this, .int a0])).length) Slot.unset).toArray = ls at hl ⊢
  have hl : lv_has ls 3 [(0, .ref this), (1, .int a0)] := hl
  refine q_gen (fun Q hQ => ?_)
  have go : ∀ (H : Heap) (locs : List Loc) (ls : Array Slot), va_P D vwCl (pq_P t σ (I, J, ri, rj, rq)) H → va_D A (pq_P t σ (I, J, ri, rj, rq)) → va_S A s.heap H locs → lv_has ls 3 [(0, .ref this), (1, .int a0)] → W p l e ({ frames := 5, cells := 0, slots := 0, locals := 122 } : Room) s m (List.toArray ([.ref this, .int a0] : List Value)) below meth c H locs 0 0 Q (F0 m 0 ls []) := by
    intro H locs ls hP hD hS hl
    refine lv_iconst (v := 0) hx hb dX12_fundGoes_0 (by decide) ?_
    refine lv_istore_n (lv' := [(2, .int 0), (0, .ref this), (1, .int a0)]) hx hb dX12_fundGoes_1 rfl hl (by decide) rfl (fun ls hl => ?_)
    have L_7969 : ∀ (n_7968 : Nat) (x_7354 : Int32) (ri_7355 : Nat → Nat → Int32) (H : Heap) (locs : List Loc) (ls : Array Slot), rg x_7354 0 40 → (40 - (x_7354).toInt).toNat < n_7968 → GM [] tg σ I ri I ri_7355 rq → va_P D vwCl (pq_P t σ (I, J, ri_7355, rj, rq)) H → va_D A (pq_P t σ (I, J, ri_7355, rj, rq)) → va_S A s.heap H locs → lv_has ls 3 [(0, .ref this), (1, .int a0), (2, .int x_7354)] → W p l e ({ frames := 5, cells := 0, slots := 0, locals := 122 } : Room) s m (List.toArray ([.ref this, .int a0] : List Value)) below meth c H locs 0 0 Q (F0 m 2 ls []) := by
      intro n_7968
      induction n_7968 with
      | zero => intro x_7354 ri_7355 H locs ls h_7972 hm_7967 hG hP hD hS hl; exact absurd hm_7967 (Nat.not_lt_zero _)
      | succ n_7968 ih_7970 =>
        intro x_7354 ri_7355 H locs ls h_7972 hm_7967 hG hP hD hS hl
        have uh_7972 := h_7972.1
        have vh_7972 := h_7972.2
        refine lv_iload_n hx hb dX12_fundGoes_2 rfl (lv_at hl 2 rfl) ?_
        refine lv_aload_n hx hb dX12_fundGoes_3 rfl (lv_at hl 0 rfl) ?_
        obtain ⟨w_7973, hR_w_7973, hL_w_7973, hK_w_7973, hN_w_7973, hT_w_7973⟩ := sh_a hSH 384 (ci := 12) (kd := 13) (len := 12720) rfl (by decide) hL_this hK_this
        refine pg_f (v := .ref w_7973) (C := RX12) (T := TX12) (N := 31) hx hb hts (tw_i inlX12) hown hK hP hL_this hK_this (by decide) rfl 0 (by decide) (hts _ (tw_c tw_176)) (pq_hv rfl hR_w_7973) dX12_fundGoes_4 ?_
        refine lv_iconst (v := 5) hx hb dX12_fundGoes_7 (by decide) ?_
        refine pl_i hx hb hK hP hL_w_7973 hK_w_7973 hN_w_7973 (vp_in_iff.mpr (by decide)) dX12_fundGoes_8 ?_
        refine lv_tov (ri w_7973 5) (hG.2.2.1 w_7973 hT_w_7973 5 (by decide) (by decide)) ?_
        have h_7974 : rg (ri w_7973 5) 0 40 := GM.z0 hG0 (by rw [hT_w_7973]; decide) (i := 5) (k := 5) (by decide) rfl
        have uh_7974 := h_7974.1
        have vh_7974 := h_7974.2
        refine lv_icmp_ge (tgt := 46) hx hb dX12_fundGoes_9 (by decide) (fun c_7975 => ?_) (fun c_7975 => ?_)
        · have tc_7976 : (ri w_7973 5).toInt ≤ (x_7354).toInt := Int32.le_iff_toInt_le.mp c_7975
          refine lv_aload_n hx hb dX12_fundGoes_46 rfl (lv_at hl 0 rfl) ?_
          refine lv_iconst (v := 0) hx hb dX12_fundGoes_47 (by decide) ?_
          refine pp_i (v := 0) (ty := .int) (C := RX12) (T := TX12) (N := 31) hx hb hts (tw_i inlX12) tyX12 tyX12_ok nmX12 hown hK hP hD hS hL_this hK_this (by decide) rfl 26 410 (by decide) (hts _ (tw_c tw_1237)) rfl (tyX12_ok 26 (by decide)) rfl rfl (Nat.le_of_ble_eq_true rfl) (ps_410 _ _ _ _ _) dX12_fundGoes_48 (fun I_7977 H locs eI_7977 hP hD hS => ?_)
          have hG := GM.wI hG 410 rfl eI_7977 (rg_w (rg_k (0 : Int32) 0 rfl) (by decide)) (by decide)
          refine lv_aload_n hx hb dX12_fundGoes_51 rfl (lv_at hl 0 rfl) ?_
          refine pg_f (v := .int (I_7977 407 this)) (C := RX12) (T := TX12) (N := 31) hx hb hts (tw_i inlX12) hown hK hP hL_this hK_this (by decide) rfl 23 (by decide) (hts _ (tw_c tw_1238)) rfl dX12_fundGoes_52 ?_
          refine lv_iconst (v := 1) hx hb dX12_fundGoes_55 (by decide) ?_
          refine lv_icmp_ne (tgt := 60) hx hb dX12_fundGoes_56 (by decide) (fun c_7978 => ?_) (fun c_7978 => ?_)
          · have tc_7979 : (I_7977 407 this).toInt ≠ 1 := fun q => c_7978 (Int32.toInt_inj.mp q)
            refine lv_aload_n hx hb dX12_fundGoes_60 rfl (lv_at hl 0 rfl) ?_
            refine pg_f (v := .ref w_7973) (C := RX12) (T := TX12) (N := 31) hx hb hts (tw_i inlX12) hown hK hP hL_this hK_this (by decide) rfl 0 (by decide) (hts _ (tw_c tw_176)) (pq_hv rfl hR_w_7973) dX12_fundGoes_61 ?_
            refine lv_bipush (v := 18) hx hb dX12_fundGoes_64 (by decide) ?_
            refine lv_aload_n hx hb dX12_fundGoes_66 rfl (lv_at hl 0 rfl) ?_
            refine lv_iload_n hx hb dX12_fundGoes_67 rfl (lv_at hl 1 rfl) ?_
            refine pk_i (va_runV (As := [.int a0]) (rest := [.int 18, .ref w_7973]) ⟨hx, hb, hml, hown, hts⟩ (s_X12_areaOf l D t σ I_7977 J ri_7355 rj rq H.size tg hSH hG.1 this a0 hL_this hK_this (rg_w h_a0 (by decide))) (cwV 1 hts (tw_V tw_1239 tw_1240 tw_1241 tw_5 tw_1242) rfl rfl rfl cv_yX12_areaOf_1 ⟨Nat.le_of_ble_eq_true rfl, Nat.le_of_ble_eq_true rfl⟩) ⟨pq_blind, pq_recv hK hP hL_this hK_this (by decide) rfl, pq_pre hK hN hP hD⟩ rfl rfl hl.1 rfl (lv_room (Nat.le_of_ble_eq_true rfl)) dX12_fundGoes_68 ⟨Nat.le_of_ble_eq_true rfl, Nat.le_of_ble_eq_true rfl⟩) hD hS hA (fun x_7980 σ1 μ1 H locs hw_7981 hP hD hS => ?_)
            have hu_7982 := hw_7981
            obtain ⟨hu_7982a, hu_7982b⟩ := Prod.mk.inj hu_7982
            rw [hu_7982a, hu_7982b] at hP hD
            refine pt_i hx hb hK hP hD hS hL_w_7973 hK_w_7973 hN_w_7973 (vp_in_iff.mpr (by decide)) dX12_fundGoes_71 (fun r_7985 H locs er_7985 hP hD hS => ?_)
            have hG := GM.wz hG hT_w_7973 (by decide) er_7985 (show zn ((18 : Int32)).toNatClampNeg = 18 from by decide) rfl (rg_w (rg_full _) (by decide)) (by decide)
            refine lv_aload_n hx hb dX12_fundGoes_72 rfl (lv_at hl 0 rfl) ?_
            refine pg_f (v := .ref w_7973) (C := RX12) (T := TX12) (N := 31) hx hb hts (tw_i inlX12) hown hK hP hL_this hK_this (by decide) rfl 0 (by decide) (hts _ (tw_c tw_176)) (pq_hv rfl hR_w_7973) dX12_fundGoes_73 ?_
            refine lv_bipush (v := 8) hx hb dX12_fundGoes_76 (by decide) ?_
            refine lv_dup2_11 hx hb dX12_fundGoes_78 rfl rfl ?_
            refine pl_i hx hb hK hP hL_w_7973 hK_w_7973 hN_w_7973 (vp_in_iff.mpr (by decide)) dX12_fundGoes_79 ?_
            refine lv_topi (fun x_7986 ex_7986 => ?_)
            refine lv_aload_n hx hb dX12_fundGoes_80 rfl (lv_at hl 0 rfl) ?_
            refine lv_bipush (v := 9) hx hb dX12_fundGoes_81 (by decide) ?_
            refine lv_iload_n hx hb dX12_fundGoes_83 rfl (lv_at hl 1 rfl) ?_
            refine lv_bipush (v := 10) hx hb dX12_fundGoes_84 (by decide) ?_
            refine pk_i (va_runV (As := [.int 9, .int a0, .int 10]) (rest := [.int x_7986, .int 8, .ref w_7973]) ⟨hx, hb, hml, hown, hts⟩ (s_X12_numberOf l D t σ I_7977 J r_7985 rj rq H.size tg hSH hG.1 this (9 : Int32) a0 (10 : Int32) hL_this hK_this w_7973 hR_w_7973 hL_w_7973 hK_w_7973 hN_w_7973 hT_w_7973) (cwV 3 hts (tw_V tw_1016 tw_1017 tw_1018 tw_5 tw_1019) rfl rfl rfl cv_yX12_numberOf_3 ⟨Nat.le_of_ble_eq_true rfl, Nat.le_of_ble_eq_true rfl⟩) ⟨pq_blind, pq_recv hK hP hL_this hK_this (by decide) rfl, pq_pre hK hN hP hD⟩ rfl rfl hl.1 rfl (lv_room (Nat.le_of_ble_eq_true rfl)) dX12_fundGoes_86 ⟨Nat.le_of_ble_eq_true rfl, Nat.le_of_ble_eq_true rfl⟩) hD hS hA (fun x_7987 σ1 μ1 H locs hw_7988 hP hD hS => ?_)
            have hu_7989 := hw_7988
            obtain ⟨hu_7989a, hu_7989b⟩ := Prod.mk.inj hu_7989
            rw [hu_7989a, hu_7989b] at hP hD
            refine lv_aload_n hx hb dX12_fundGoes_89 rfl (lv_at hl 0 rfl) ?_
            refine pg_f (v := .ref w_7973) (C := RX12) (T := TX12) (N := 31) hx hb hts (tw_i inlX12) hown hK hP hL_this hK_this (by decide) rfl 0 (by decide) (hts _ (tw_c tw_176)) (pq_hv rfl hR_w_7973) dX12_fundGoes_90 ?_
            refine lv_bipush (v := 18) hx hb dX12_fundGoes_93 (by decide) ?_
            refine pl_i hx hb hK hP hL_w_7973 hK_w_7973 hN_w_7973 (vp_in_iff.mpr (by decide)) dX12_fundGoes_95 ?_
            refine lv_topi (fun x_7992 ex_7992 => ?_)
            refine lv_imul hx hb dX12_fundGoes_96 ?_
            refine lv_topi (fun x_7993 ex_7993 => ?_)
            refine lv_bipush (v := 100) hx hb dX12_fundGoes_97 (by decide) ?_
            refine lv_idiv hx hb dX12_fundGoes_99 (by decide) ?_
            refine lv_topi (fun x_7994 ex_7994 => ?_)
            refine lv_iadd hx hb dX12_fundGoes_100 ?_
            refine lv_topi (fun x_7995 ex_7995 => ?_)
            refine pt_i hx hb hK hP hD hS hL_w_7973 hK_w_7973 hN_w_7973 (vp_in_iff.mpr (by decide)) dX12_fundGoes_101 (fun r_7996 H locs er_7996 hP hD hS => ?_)
            have hG := GM.wz hG hT_w_7973 (by decide) er_7996 (show zn ((8 : Int32)).toNatClampNeg = 8 from by decide) rfl (rg_w (rg_full _) (by decide)) (by decide)
            refine lv_iconst (v := 0) hx hb dX12_fundGoes_102 (by decide) ?_
            refine lv_istore_n (lv' := [(2, .int 0), (0, .ref this), (1, .int a0)]) hx hb dX12_fundGoes_103 rfl hl (by decide) rfl (fun ls hl => ?_)
            have L_8516 : ∀ (n_8515 : Nat) (x_8474 : Int32) (ri_8475 : Nat → Nat → Int32) (H : Heap) (locs : List Loc) (ls : Array Slot), rg x_8474 0 40 → (40 - (x_8474).toInt).toNat < n_8515 → GM [] tg σ I ri I_7977 ri_8475 rq → va_P D vwCl (pq_P t σ (I_7977, J, ri_8475, rj, rq)) H → va_D A (pq_P t σ (I_7977, J, ri_8475, rj, rq)) → va_S A s.heap H locs → lv_has ls 3 [(0, .ref this), (1, .int a0), (2, .int x_8474)] → W p l e ({ frames := 5, cells := 0, slots := 0, locals := 122 } : Room) s m (List.toArray ([.ref this, .int a0] : List Value)) below meth c H locs 0 0 Q (F0 m 104 ls []) := by
              intro n_8515
              induction n_8515 with
              | zero => intro x_8474 ri_8475 H locs ls h_8519 hm_8514 hG hP hD hS hl; exact absurd hm_8514 (Nat.not_lt_zero _)
              | succ n_8515 ih_8517 =>
                intro x_8474 ri_8475 H locs ls h_8519 hm_8514 hG hP hD hS hl
                have uh_8519 := h_8519.1
                have vh_8519 := h_8519.2
                refine lv_iload_n hx hb dX12_fundGoes_104 rfl (lv_at hl 2 rfl) ?_
                refine lv_aload_n hx hb dX12_fundGoes_105 rfl (lv_at hl 0 rfl) ?_
                refine pg_f (v := .ref w_7973) (C := RX12) (T := TX12) (N := 31) hx hb hts (tw_i inlX12) hown hK hP hL_this hK_this (by decide) rfl 0 (by decide) (hts _ (tw_c tw_176)) (pq_hv rfl hR_w_7973) dX12_fundGoes_106 ?_
                refine lv_iconst (v := 2) hx hb dX12_fundGoes_109 (by decide) ?_
                refine pl_i hx hb hK hP hL_w_7973 hK_w_7973 hN_w_7973 (vp_in_iff.mpr (by decide)) dX12_fundGoes_110 ?_
                refine lv_tov (ri w_7973 2) (hG.2.2.1 w_7973 hT_w_7973 2 (by decide) (by decide)) ?_
                have h_8520 : rg (ri w_7973 2) 0 40 := GM.z0 hG0 (by rw [hT_w_7973]; decide) (i := 2) (k := 2) (by decide) rfl
                have uh_8520 := h_8520.1
                have vh_8520 := h_8520.2
                refine lv_icmp_ge (tgt := 147) hx hb dX12_fundGoes_111 (by decide) (fun c_8521 => ?_) (fun c_8521 => ?_)
                · have tc_8522 : (ri w_7973 2).toInt ≤ (x_8474).toInt := Int32.le_iff_toInt_le.mp c_8521
                  refine lv_aload_n hx hb dX12_fundGoes_147 rfl (lv_at hl 0 rfl) ?_
                  refine pg_f (v := .ref w_7973) (C := RX12) (T := TX12) (N := 31) hx hb hts (tw_i inlX12) hown hK hP hL_this hK_this (by decide) rfl 0 (by decide) (hts _ (tw_c tw_176)) (pq_hv rfl hR_w_7973) dX12_fundGoes_148 ?_
                  refine lv_bipush (v := 8) hx hb dX12_fundGoes_151 (by decide) ?_
                  refine pl_i hx hb hK hP hL_w_7973 hK_w_7973 hN_w_7973 (vp_in_iff.mpr (by decide)) dX12_fundGoes_153 ?_
                  refine lv_topi (fun x_8523 ex_8523 => ?_)
                  refine lv_if_lt (tgt := 158) hx hb dX12_fundGoes_154 (by decide) (fun c_8524 => ?_) (fun c_8524 => ?_)
                  · have tc_8525 : (x_8523).toInt < 0 := Int32.lt_iff_toInt_lt.mp c_8524
                    have h_8526 : rg x_8523 (-2147483648) (-1) := rg_lt1 c_8524 (rg_full _) (rg_k (0 : Int32) 0 rfl) (by decide)
                    have uh_8526 := h_8526.1
                    have vh_8526 := h_8526.2
                    refine lv_aload_n hx hb dX12_fundGoes_158 rfl (lv_at hl 0 rfl) ?_
                    refine lv_iconst (v := 1) hx hb dX12_fundGoes_159 (by decide) ?_
                    refine pp_i (v := 1) (ty := .int) (C := RX12) (T := TX12) (N := 31) hx hb hts (tw_i inlX12) tyX12 tyX12_ok nmX12 hown hK hP hD hS hL_this hK_this (by decide) rfl 26 410 (by decide) (hts _ (tw_c tw_1237)) rfl (tyX12_ok 26 (by decide)) rfl rfl (Nat.le_of_ble_eq_true rfl) (ps_410 _ _ _ _ _) dX12_fundGoes_160 (fun I_8527 H locs eI_8527 hP hD hS => ?_)
                    have hG := GM.wI hG 410 rfl eI_8527 (rg_w (rg_k (1 : Int32) 1 rfl) (by decide)) (by decide)
                    refine lv_aload_n hx hb dX12_fundGoes_163 rfl (lv_at hl 0 rfl) ?_
                    refine pg_f (v := .ref w_7973) (C := RX12) (T := TX12) (N := 31) hx hb hts (tw_i inlX12) hown hK hP hL_this hK_this (by decide) rfl 0 (by decide) (hts _ (tw_c tw_176)) (pq_hv rfl hR_w_7973) dX12_fundGoes_164 ?_
                    refine lv_bipush (v := 12) hx hb dX12_fundGoes_167 (by decide) ?_
                    refine pl_i hx hb hK hP hL_w_7973 hK_w_7973 hN_w_7973 (vp_in_iff.mpr (by decide)) dX12_fundGoes_169 ?_
                    refine lv_topi (fun x_8528 ex_8528 => ?_)
                    refine lv_if_ge (tgt := 181) hx hb dX12_fundGoes_170 (by decide) (fun c_8529 => ?_) (fun c_8529 => ?_)
                    · have tc_8530 : 0 ≤ (x_8528).toInt := Int32.le_iff_toInt_le.mp c_8529
                      have h_8531 : rg x_8528 0 2147483647 := rg_le2 c_8529 (rg_k (0 : Int32) 0 rfl) (rg_full _) (by decide)
                      have uh_8531 := h_8531.1
                      have vh_8531 := h_8531.2
                      subst hQ
                      exact W.vret hx hb hr (fun t1 ht hW => ⟨⟨(σ, I_8527, J, ri_8475, rj, rq), rfl, ⟨I_8527, ri_8475, rfl, hG⟩, by rw [ht]; exact hP, va_K.moved hW.alike hK, hD⟩, hS.F ht⟩) hS.2.2 dX12_fundGoes_181
                    · have tc_8532 : (x_8528).toInt < 0 := Int32.lt_iff_toInt_lt.mp (nle c_8529)
                      have h_8533 : rg x_8528 (-2147483648) (-1) := rg_lt1 (nle c_8529) (rg_full _) (rg_k (0 : Int32) 0 rfl) (by decide)
                      have uh_8533 := h_8533.1
                      have vh_8533 := h_8533.2
                      refine lv_aload_n hx hb dX12_fundGoes_173 rfl (lv_at hl 0 rfl) ?_
                      refine pg_f (v := .ref w_7973) (C := RX12) (T := TX12) (N := 31) hx hb hts (tw_i inlX12) hown hK hP hL_this hK_this (by decide) rfl 0 (by decide) (hts _ (tw_c tw_176)) (pq_hv rfl hR_w_7973) dX12_fundGoes_174 ?_
                      refine lv_bipush (v := 12) hx hb dX12_fundGoes_177 (by decide) ?_
                      refine lv_iload_n hx hb dX12_fundGoes_179 rfl (lv_at hl 1 rfl) ?_
                      refine pt_i hx hb hK hP hD hS hL_w_7973 hK_w_7973 hN_w_7973 (vp_in_iff.mpr (by decide)) dX12_fundGoes_180 (fun r_8534 H locs er_8534 hP hD hS => ?_)
                      have hG := GM.wz hG hT_w_7973 (by decide) er_8534 (show zn ((12 : Int32)).toNatClampNeg = 12 from by decide) rfl (rg_w h_a0 (by decide)) (by decide)
                      subst hQ
                      exact W.vret hx hb hr (fun t1 ht hW => ⟨⟨(σ, I_8527, J, r_8534, rj, rq), rfl, ⟨I_8527, r_8534, rfl, hG⟩, by rw [ht]; exact hP, va_K.moved hW.alike hK, hD⟩, hS.F ht⟩) hS.2.2 dX12_fundGoes_181
                  · have tc_8535 : 0 ≤ (x_8523).toInt := Int32.le_iff_toInt_le.mp (nlt c_8524)
                    have h_8536 : rg x_8523 0 2147483647 := rg_le2 (nlt c_8524) (rg_k (0 : Int32) 0 rfl) (rg_full _) (by decide)
                    have uh_8536 := h_8536.1
                    have vh_8536 := h_8536.2
                    subst hQ
                    exact W.vret hx hb hr (fun t1 ht hW => ⟨⟨(σ, I_7977, J, ri_8475, rj, rq), rfl, ⟨I_7977, ri_8475, rfl, hG⟩, by rw [ht]; exact hP, va_K.moved hW.alike hK, hD⟩, hS.F ht⟩) hS.2.2 dX12_fundGoes_157
                · have tc_8537 : (x_8474).toInt < (ri w_7973 2).toInt := Int32.lt_iff_toInt_lt.mp (nle c_8521)
                  have h_8538 : rg x_8474 0 39 := rg_lt1 (nle c_8521) h_8519 h_8520 (by decide)
                  have uh_8538 := h_8538.1
                  have vh_8538 := h_8538.2
                  have h_8539 : rg (ri w_7973 2) 1 40 := rg_lt2 (nle c_8521) h_8519 h_8520 (by decide)
                  have uh_8539 := h_8539.1
                  have vh_8539 := h_8539.2
                  refine lv_aload_n hx hb dX12_fundGoes_114 rfl (lv_at hl 0 rfl) ?_
                  refine lv_iload_n hx hb dX12_fundGoes_115 rfl (lv_at hl 2 rfl) ?_
                  refine lv_bipush (v := 6) hx hb dX12_fundGoes_116 (by decide) ?_
                  refine pk_i (va_runV (As := [.int x_8474, .int 6]) (rest := []) ⟨hx, hb, hml, hown, hts⟩ (s_X12_cellAt_c6 l D t σ I_7977 J ri_8475 rj rq H.size tg hSH hG.1 this x_8474 hL_this hK_this (rg_w h_8538 (by decide))) (cwV 2 hts (tw_V tw_361 tw_362 tw_363 tw_5 tw_364) rfl rfl rfl cv_yX12_cellAt_2 ⟨Nat.le_of_ble_eq_true rfl, Nat.le_of_ble_eq_true rfl⟩) ⟨pq_blind, pq_recv hK hP hL_this hK_this (by decide) rfl, pq_pre hK hN hP hD⟩ rfl rfl hl.1 rfl (lv_room (Nat.le_of_ble_eq_true rfl)) dX12_fundGoes_118 ⟨Nat.le_of_ble_eq_true rfl, Nat.le_of_ble_eq_true rfl⟩) hD hS hA (fun x_8540 σ1 μ1 H locs hw_8541 hP hD hS => ?_)
                  have hu_8542 := hw_8541
                  obtain ⟨hu_8542a, hu_8542b⟩ := Prod.mk.inj hu_8542
                  rw [hu_8542a, hu_8542b] at hP hD
                  have K_8557 : ∀  (ri_8554 : Nat → Nat → Int32) (H : Heap) (locs : List Loc) (ls : Array Slot), GM [] tg σ I ri I_7977 ri_8554 rq → va_P D vwCl (pq_P t σ (I_7977, J, ri_8554, rj, rq)) H → va_D A (pq_P t σ (I_7977, J, ri_8554, rj, rq)) → va_S A s.heap H locs → lv_has ls 3 [(0, .ref this), (1, .int a0), (2, .int x_8474)] → W p l e ({ frames := 5, cells := 0, slots := 0, locals := 122 } : Room) s m (List.toArray ([.ref this, .int a0] : List Value)) below meth c H locs 0 0 Q (F0 m 141 ls []) := by
                    intro ri_8554 H locs ls hG hP hD hS hl
                    obtain ⟨x_8558, ex_8558⟩ : ∃ y : Int32, y = x_8474 + Int32.ofInt 1 := ⟨_, rfl⟩
                    have h_8559 : rg x_8558 1 40 := rg_of_eq ex_8558 (rg_add h_8538 (rg_k (Int32.ofInt 1) 1 rfl) (by decide))
                    have uh_8559 := h_8559.1
                    have vh_8559 := h_8559.2
                    have tx_8558 : (x_8558).toInt = (x_8474).toInt + 1 := by rw [ex_8558]; exact i_add_rg (a2 := (x_8474).toInt) (b2 := 1) rfl rfl h_8538 (rg_k (Int32.ofInt 1) 1 rfl) (by decide)
                    refine lv_iinc (v := x_8558) (lv' := [(2, .int x_8558), (0, .ref this), (1, .int a0)]) hx hb dX12_fundGoes_141 hl (k := 2) rfl ex_8558.symm (by decide) rfl (fun ls hl => ?_)
                    refine lv_goto (tgt := 104) hx hb dX12_fundGoes_144 (by decide) ?_
                    exact ih_8517 x_8558 ri_8554 _ _ _ (rg_w h_8559 (by decide)) (ms_up 1 hm_8514 ex_8558 rfl (by decide) h_8538 (by decide) (by decide)) hG hP hD hS (lv_sub hl [1, 2, 0] rfl)
                  refine lv_if_le (tgt := 141) hx hb dX12_fundGoes_121 (by decide) (fun c_8560 => ?_) (fun c_8560 => ?_)
                  · have tc_8561 : (x_8540).toInt ≤ 0 := Int32.le_iff_toInt_le.mp c_8560
                    have h_8562 : rg x_8540 (-2147483648) 0 := rg_le1 c_8560 (rg_full _) (rg_k (0 : Int32) 0 rfl) (by decide)
                    have uh_8562 := h_8562.1
                    have vh_8562 := h_8562.2
                    exact K_8557 ri_8475 _ _ _ hG hP hD hS (lv_sub hl [0, 1, 2] rfl)
                  · have tc_8563 : 0 < (x_8540).toInt := Int32.lt_iff_toInt_lt.mp (nle c_8560)
                    have h_8564 : rg x_8540 1 2147483647 := rg_lt2 (nle c_8560) (rg_k (0 : Int32) 0 rfl) (rg_full _) (by decide)
                    have uh_8564 := h_8564.1
                    have vh_8564 := h_8564.2
                    refine lv_aload_n hx hb dX12_fundGoes_124 rfl (lv_at hl 0 rfl) ?_
                    refine pg_f (v := .ref w_7973) (C := RX12) (T := TX12) (N := 31) hx hb hts (tw_i inlX12) hown hK hP hL_this hK_this (by decide) rfl 0 (by decide) (hts _ (tw_c tw_176)) (pq_hv rfl hR_w_7973) dX12_fundGoes_125 ?_
                    refine lv_bipush (v := 8) hx hb dX12_fundGoes_128 (by decide) ?_
                    refine lv_dup2_11 hx hb dX12_fundGoes_130 rfl rfl ?_
                    refine pl_i hx hb hK hP hL_w_7973 hK_w_7973 hN_w_7973 (vp_in_iff.mpr (by decide)) dX12_fundGoes_131 ?_
                    refine lv_topi (fun x_8565 ex_8565 => ?_)
                    refine lv_aload_n hx hb dX12_fundGoes_132 rfl (lv_at hl 0 rfl) ?_
                    refine pg_f (v := .ref w_7973) (C := RX12) (T := TX12) (N := 31) hx hb hts (tw_i inlX12) hown hK hP hL_this hK_this (by decide) rfl 0 (by decide) (hts _ (tw_c tw_176)) (pq_hv rfl hR_w_7973) dX12_fundGoes_133 ?_
                    refine lv_bipush (v := 17) hx hb dX12_fundGoes_136 (by decide) ?_
                    refine pl_i hx hb hK hP hL_w_7973 hK_w_7973 hN_w_7973 (vp_in_iff.mpr (by decide)) dX12_fundGoes_138 ?_
                    refine lv_topi (fun x_8566 ex_8566 => ?_)
                    refine lv_isub hx hb dX12_fundGoes_139 ?_
                    refine lv_topi (fun x_8567 ex_8567 => ?_)
                    refine pt_i hx hb hK hP hD hS hL_w_7973 hK_w_7973 hN_w_7973 (vp_in_iff.mpr (by decide)) dX12_fundGoes_140 (fun r_8568 H locs er_8568 hP hD hS => ?_)
                    have hG := GM.wz hG hT_w_7973 (by decide) er_8568 (show zn ((8 : Int32)).toNatClampNeg = 8 from by decide) rfl (rg_w (rg_full _) (by decide)) (by decide)
                    exact K_8557 r_8568 _ _ _ hG hP hD hS (lv_sub hl [0, 1, 2] rfl)
            exact L_8516 _ (0 : Int32) r_7996 _ _ _ (rg_w (rg_k (0 : Int32) 0 rfl) (by decide)) (Nat.lt_succ_self _) hG hP hD hS (lv_sub hl [1, 2, 0] rfl)
          · have tc_8569 : (I_7977 407 this).toInt = 1 := congrArg Int32.toInt c_7978
            have h_8570 : rg (I_7977 407 this) 1 1 := rg_and (rg_full _) (rg_of_eq c_7978 (rg_k (1 : Int32) 1 rfl)) (by decide)
            have uh_8570 := h_8570.1
            have vh_8570 := h_8570.2
            subst hQ
            exact W.vret hx hb hr (fun t1 ht hW => ⟨⟨(σ, I_7977, J, ri_7355, rj, rq), rfl, ⟨I_7977, ri_7355, rfl, hG⟩, by rw [ht]; exact hP, va_K.moved hW.alike hK, hD⟩, hS.F ht⟩) hS.2.2 dX12_fundGoes_59
        · have tc_8571 : (x_7354).toInt < (ri w_7973 5).toInt := Int32.lt_iff_toInt_lt.mp (nle c_7975)
          have h_8572 : rg x_7354 0 39 := rg_lt1 (nle c_7975) h_7972 h_7974 (by decide)
          have uh_8572 := h_8572.1
          have vh_8572 := h_8572.2
          have h_8573 : rg (ri w_7973 5) 1 40 := rg_lt2 (nle c_7975) h_7972 h_7974 (by decide)
          have uh_8573 := h_8573.1
          have vh_8573 := h_8573.2
          refine lv_aload_n hx hb dX12_fundGoes_12 rfl (lv_at hl 0 rfl) ?_
          refine lv_iload_n hx hb dX12_fundGoes_13 rfl (lv_at hl 2 rfl) ?_
          refine lv_iconst (v := 3) hx hb dX12_fundGoes_14 (by decide) ?_
          refine pk_i (va_runV (As := [.int x_7354, .int 3]) (rest := []) ⟨hx, hb, hml, hown, hts⟩ (s_X12_personAt_c3 l D t σ I J ri_7355 rj rq H.size tg hSH hG.1 this x_7354 hL_this hK_this (rg_w h_8572 (by decide)) w_7973 hR_w_7973 hL_w_7973 hK_w_7973 hN_w_7973 hT_w_7973) (cwV 2 hts (tw_V tw_437 tw_438 tw_439 tw_5 tw_440) rfl rfl rfl cv_yX12_personAt_2 ⟨Nat.le_of_ble_eq_true rfl, Nat.le_of_ble_eq_true rfl⟩) ⟨pq_blind, pq_recv hK hP hL_this hK_this (by decide) rfl, pq_pre hK hN hP hD⟩ rfl rfl hl.1 rfl (lv_room (Nat.le_of_ble_eq_true rfl)) dX12_fundGoes_15 ⟨Nat.le_of_ble_eq_true rfl, Nat.le_of_ble_eq_true rfl⟩) hD hS hA (fun x_8574 σ1 μ1 H locs hw_8575 hP hD hS => ?_)
          obtain ⟨hu_8576, hp_8579, hp_8580, hr_8578⟩ := hw_8575
          obtain ⟨hu_8576a, hu_8576b⟩ := Prod.mk.inj hu_8576
          rw [hu_8576a, hu_8576b] at hP hD
          have tt_8581 := hp_8580
          refine lv_sipush (v := 200) hx hb dX12_fundGoes_18 (by decide) ?_
          have K_8598 : ∀  (ri_8595 : Nat → Nat → Int32) (H : Heap) (locs : List Loc) (ls : Array Slot), GM [] tg σ I ri I ri_8595 rq → va_P D vwCl (pq_P t σ (I, J, ri_8595, rj, rq)) H → va_D A (pq_P t σ (I, J, ri_8595, rj, rq)) → va_S A s.heap H locs → lv_has ls 3 [(0, .ref this), (1, .int a0), (2, .int x_7354)] → W p l e ({ frames := 5, cells := 0, slots := 0, locals := 122 } : Room) s m (List.toArray ([.ref this, .int a0] : List Value)) below meth c H locs 0 0 Q (F0 m 40 ls []) := by
            intro ri_8595 H locs ls hG hP hD hS hl
            obtain ⟨x_8599, ex_8599⟩ : ∃ y : Int32, y = x_7354 + Int32.ofInt 1 := ⟨_, rfl⟩
            have h_8600 : rg x_8599 1 40 := rg_of_eq ex_8599 (rg_add h_8572 (rg_k (Int32.ofInt 1) 1 rfl) (by decide))
            have uh_8600 := h_8600.1
            have vh_8600 := h_8600.2
            have tx_8599 : (x_8599).toInt = (x_7354).toInt + 1 := by rw [ex_8599]; exact i_add_rg (a2 := (x_7354).toInt) (b2 := 1) rfl rfl h_8572 (rg_k (Int32.ofInt 1) 1 rfl) (by decide)
            refine lv_iinc (v := x_8599) (lv' := [(2, .int x_8599), (0, .ref this), (1, .int a0)]) hx hb dX12_fundGoes_40 hl (k := 2) rfl ex_8599.symm (by decide) rfl (fun ls hl => ?_)
            refine lv_goto (tgt := 2) hx hb dX12_fundGoes_43 (by decide) ?_
            exact ih_7970 x_8599 ri_8595 _ _ _ (rg_w h_8600 (by decide)) (ms_up 1 hm_7967 ex_8599 rfl (by decide) h_8572 (by decide) (by decide)) hG hP hD hS (lv_sub hl [1, 2, 0] rfl)
          refine lv_icmp_ne (tgt := 40) hx hb dX12_fundGoes_21 (by decide) (fun c_8601 => ?_) (fun c_8601 => ?_)
          · have tc_8602 : (x_8574).toInt ≠ 200 := fun q => c_8601 (Int32.toInt_inj.mp q)
            exact K_8598 ri_7355 _ _ _ hG hP hD hS (lv_sub hl [0, 1, 2] rfl)
          · have tc_8603 : (x_8574).toInt = 200 := congrArg Int32.toInt c_8601
            have h_8604 : rg x_8574 200 200 := rg_and hr_8578 (rg_of_eq c_8601 (rg_k (200 : Int32) 200 rfl)) (by decide)
            have uh_8604 := h_8604.1
            have vh_8604 := h_8604.2
            refine lv_aload_n hx hb dX12_fundGoes_24 rfl (lv_at hl 0 rfl) ?_
            refine pg_f (v := .ref w_7973) (C := RX12) (T := TX12) (N := 31) hx hb hts (tw_i inlX12) hown hK hP hL_this hK_this (by decide) rfl 0 (by decide) (hts _ (tw_c tw_176)) (pq_hv rfl hR_w_7973) dX12_fundGoes_25 ?_
            refine lv_bipush (v := 8) hx hb dX12_fundGoes_28 (by decide) ?_
            refine lv_dup2_11 hx hb dX12_fundGoes_30 rfl rfl ?_
            refine pl_i hx hb hK hP hL_w_7973 hK_w_7973 hN_w_7973 (vp_in_iff.mpr (by decide)) dX12_fundGoes_31 ?_
            refine lv_topi (fun x_8605 ex_8605 => ?_)
            refine lv_aload_n hx hb dX12_fundGoes_32 rfl (lv_at hl 0 rfl) ?_
            refine lv_iload_n hx hb dX12_fundGoes_33 rfl (lv_at hl 2 rfl) ?_
            refine lv_iconst (v := 4) hx hb dX12_fundGoes_34 (by decide) ?_
            refine pk_i (va_runV (As := [.int x_7354, .int 4]) (rest := [.int x_8605, .int 8, .ref w_7973]) ⟨hx, hb, hml, hown, hts⟩ (s_X12_personAt_c4 l D t σ I J ri_7355 rj rq H.size tg hSH hG.1 this x_7354 hL_this hK_this (rg_w h_8572 (by decide)) w_7973 hR_w_7973 hL_w_7973 hK_w_7973 hN_w_7973 hT_w_7973) (cwV 2 hts (tw_V tw_437 tw_438 tw_439 tw_5 tw_440) rfl rfl rfl cv_yX12_personAt_2 ⟨Nat.le_of_ble_eq_true rfl, Nat.le_of_ble_eq_true rfl⟩) ⟨pq_blind, pq_recv hK hP hL_this hK_this (by decide) rfl, pq_pre hK hN hP hD⟩ rfl rfl hl.1 rfl (lv_room (Nat.le_of_ble_eq_true rfl)) dX12_fundGoes_35 ⟨Nat.le_of_ble_eq_true rfl, Nat.le_of_ble_eq_true rfl⟩) hD hS hA (fun x_8606 σ1 μ1 H locs hw_8607 hP hD hS => ?_)
            obtain ⟨hu_8608, hp_8611⟩ := hw_8607
            obtain ⟨hu_8608a, hu_8608b⟩ := Prod.mk.inj hu_8608
            rw [hu_8608a, hu_8608b] at hP hD
            refine lv_iadd hx hb dX12_fundGoes_38 ?_
            refine lv_topi (fun x_8612 ex_8612 => ?_)
            refine pt_i hx hb hK hP hD hS hL_w_7973 hK_w_7973 hN_w_7973 (vp_in_iff.mpr (by decide)) dX12_fundGoes_39 (fun r_8613 H locs er_8613 hP hD hS => ?_)
            have hG := GM.wz hG hT_w_7973 (by decide) er_8613 (show zn ((8 : Int32)).toNatClampNeg = 8 from by decide) rfl (rg_w (rg_full _) (by decide)) (by decide)
            exact K_8598 r_8613 _ _ _ hG hP hD hS (lv_sub hl [0, 1, 2] rfl)
    exact L_7969 _ (0 : Int32) ri _ _ _ (rg_w (rg_k (0 : Int32) 0 rfl) (by decide)) (Nat.lt_succ_self _) hG hP hD hS (lv_sub hl [1, 2, 0] rfl)
  exact go _ _ _ hP hD hS hl

set_option maxHeartbeats 4000000 in
set_option maxRecDepth 100000 in
theorem s_X12_goesAhead (l : Launch) (D : va_G) (t : pq_T) (σ : pq_S) (I : Nat → Nat → Int32) (J : Nat → Nat → Int64) (ri : Nat → Nat → Int32) (rj : Nat → Nat → Int64) (rq : Nat → Nat → Option Nat) (sz : Nat) (tg : Nat → Nat) (hSH : SH σ tg) (hG0 : GT tg I ri) (this : Nat) (a0 : Int32) (a1 : Int32) (a2 : Int32) (a3 : Int32) (hL_this : this ∈ σ.1) (hK_this : σ.2.1 this = 12) (h_a0 : rg a0 0 39) (h_a1 : rg a1 0 39) (h_a3 : rg a3 0 1) (this_a : Nat) (hR_this_a : σ.2.2.1 384 this = some this_a) (hL_this_a : this_a ∈ σ.1) (hK_this_a : σ.2.1 this_a = 13) (hN_this_a : σ.2.2.2 this_a = 12720) (hT_this_a : tg this_a = 384) (hp0 : rg (ri this_a (743 + 12 * a0.toNatClampNeg)) 0 4) (hp1 : rg (ri this_a (743 + 12 * a1.toNatClampNeg)) 0 4) : MetI l yX12_goesAhead (wa yX12_goesAhead cX12_goesAhead 5 (some .boolean)) ({ frames := 3, cells := 0, slots := 0, locals := 74 }) [.ref this, .int a0, .int a1, .int a2, .int a3] D t σ (I, J, ri, rj, rq) sz 0 0 (fun (r : Int32) (u : pq_S × pq_M) => u = (σ, I, J, ri, rj, rq) ∧ ((r = 1 ∧ True) ∨ (r = 0 ∧ True))) := by
  refine Met.ofW (cc := cX12_goesAhead) (maxL := 5) (ret := (some .boolean)) (by decide) rfl ?_
  intro p e s m args below meth c s₁ B hml hv
  obtain ⟨rfl, hsz, hP, hK, hD0, hN⟩ := hv
  have hx := B.exec
  have hb := B.bytes
  have hr := B.returns
  have hts := atoms_spec (ws := (wa yX12_goesAhead cX12_goesAhead 5 (some .boolean))) B.pre
  have hown : s.vm.findClass RX12 = some m.cls := findClass_of_methodNamed B.named
  have hlocks := B.notSynchronized
  subst hsz
  have hD : va_D (pq_B t σ (I, J, ri, rj, rq) s.heap.size) (pq_P t σ (I, J, ri, rj, rq)) := hD0.self
  generalize hAe : pq_B t σ (I, J, ri, rj, rq) s.heap.size = A at hD ⊢
  have hA : ∀ q : Nat, s.heap.size ≤ q → A q := fun q h => by rw [← hAe]; exact Or.inr h
  have hS : va_S A s.heap s.heap [] := va_S.rf
  have hG : GM [] tg σ I ri I ri rq := ⟨hG0, fun _ _ _ => rfl, fun _ _ _ _ _ => rfl, fun _ _ _ _ _ _ => rfl⟩
  have hl := lv_entry ([.ref this, .int a0, .int a1, .int a2, .int a3]) (n := 5) (Nat.le_of_ble_eq_true rfl)
  rw [lg_entry_eq]
  generalize (lg_sl ([.ref this, .int a0, .int a1, .int a2, .int a3]) ++ List.replicate (5 - (lg_sl ([.ref this, .int a0, .int a1, .int a2, .int a3])).length) Slot.unset).toArray = ls at hl ⊢
  have hl : lv_has ls 5 [(0, .ref this), (1, .int a0), (2, .int a1), (3, .int a2), (4, .int a3)] := hl
  refine q_gen (fun Q hQ => ?_)
  have go : ∀ (H : Heap) (locs : List Loc) (ls : Array Slot), va_P D vwCl (pq_P t σ (I, J, ri, rj, rq)) H → va_D A (pq_P t σ (I, J, ri, rj, rq)) → va_S A s.heap H locs → lv_has ls 5 [(0, .ref this), (1, .int a0), (2, .int a1), (3, .int a2), (4, .int a3)] → W p l e ({ frames := 3, cells := 0, slots := 0, locals := 74 } : Room) s m (List.toArray ([.ref this, .int a0, .int a1, .int a2, .int a3] : List Value)) below meth c H locs 0 0 Q (F0 m 0 ls []) := by
    intro H locs ls hP hD hS hl
    refine lv_aload_n hx hb dX12_goesAhead_0 rfl (lv_at hl 0 rfl) ?_
    refine pg_f (v := .int (I 407 this)) (C := RX12) (T := TX12) (N := 31) hx hb hts (tw_i inlX12) hown hK hP hL_this hK_this (by decide) rfl 23 (by decide) (hts _ (tw_c tw_1238)) rfl dX12_goesAhead_1 ?_
    refine lv_iconst (v := 1) hx hb dX12_goesAhead_4 (by decide) ?_
    refine lv_icmp_ne (tgt := 39) hx hb dX12_goesAhead_5 (by decide) (fun c_1 => ?_) (fun c_1 => ?_)
    · have tc_2 : (I 407 this).toInt ≠ 1 := fun q => c_1 (Int32.toInt_inj.mp q)
      refine lv_iload hx hb dX12_goesAhead_39 (lv_at hl 4 rfl) ?_
      have K_19 : ∀  (H : Heap) (locs : List Loc) (ls : Array Slot), GM [] tg σ I ri I ri rq → va_P D vwCl (pq_P t σ (I, J, ri, rj, rq)) H → va_D A (pq_P t σ (I, J, ri, rj, rq)) → va_S A s.heap H locs → lv_has ls 5 [] → W p l e ({ frames := 3, cells := 0, slots := 0, locals := 74 } : Room) s m (List.toArray ([.ref this, .int a0, .int a1, .int a2, .int a3] : List Value)) below meth c H locs 0 0 Q (F0 m 58 ls []) := by
        intro H locs ls hG hP hD hS hl
        refine lv_iconst (v := 0) hx hb dX12_goesAhead_58 (by decide) ?_
        subst hQ
        exact W.zret (v := 0) hx hb hr (by decide) (fun t1 ht hW => ⟨⟨0, (σ, I, J, ri, rj, rq), rfl, ⟨rfl, (Or.inr ⟨rfl, trivial⟩)⟩, by rw [ht]; exact hP, va_K.moved hW.alike hK, hD⟩, hS.F ht⟩) hS.2.2 dX12_goesAhead_59
      refine lv_if_eq (tgt := 58) hx hb dX12_goesAhead_41 (by decide) (fun c_20 => ?_) (fun c_20 => ?_)
      · have tc_21 : (a3).toInt = 0 := congrArg Int32.toInt c_20
        have h_22 : rg a3 0 0 := rg_and h_a3 (rg_of_eq c_20 (rg_k (0 : Int32) 0 rfl)) (by decide)
        have uh_22 := h_22.1
        have vh_22 := h_22.2
        exact K_19 _ _ _ hG hP hD hS (lv_sub hl [] rfl)
      · have tc_23 : (a3).toInt ≠ 0 := fun q => c_20 (Int32.toInt_inj.mp q)
        have h_24 : rg a3 1 1 := rg_ne c_20 h_a3 0 rfl (by decide)
        have uh_24 := h_24.1
        have vh_24 := h_24.2
        refine lv_aload_n hx hb dX12_goesAhead_44 rfl (lv_at hl 0 rfl) ?_
        refine lv_iload_n hx hb dX12_goesAhead_45 rfl (lv_at hl 1 rfl) ?_
        refine lv_iload_n hx hb dX12_goesAhead_46 rfl (lv_at hl 2 rfl) ?_
        refine lv_iload_n hx hb dX12_goesAhead_47 rfl (lv_at hl 3 rfl) ?_
        refine pk_i (va_runV (As := [.int a0, .int a1, .int a2]) (rest := []) ⟨hx, hb, hml, hown, hts⟩ (s_X12_isAhead l D t σ I J ri rj rq H.size tg hSH hG.1 this a0 a1 a2 hL_this hK_this (rg_w h_a0 (by decide)) (rg_w h_a1 (by decide)) this_a hR_this_a hL_this_a hK_this_a hN_this_a hT_this_a) (cwV 3 hts (tw_V tw_524 tw_525 tw_526 tw_5 tw_527) rfl rfl rfl cv_yX12_isAhead_3 ⟨Nat.le_of_ble_eq_true rfl, Nat.le_of_ble_eq_true rfl⟩) ⟨pq_blind, pq_recv hK hP hL_this hK_this (by decide) rfl, pq_pre hK hN hP hD⟩ rfl rfl hl.1 rfl (lv_room (Nat.le_of_ble_eq_true rfl)) dX12_goesAhead_48 ⟨Nat.le_of_ble_eq_true rfl, Nat.le_of_ble_eq_true rfl⟩) hD hS hA (fun x_25 σ1 μ1 H locs hw_26 hP hD hS => ?_)
        obtain ⟨hu_27, hr_29⟩ := hw_26
        obtain ⟨hu_27a, hu_27b⟩ := Prod.mk.inj hu_27
        rw [hu_27a, hu_27b] at hP hD
        have h_30 : rg x_25 0 1 := by rcases hr_29 with ⟨q, -⟩ | ⟨q, -⟩ <;> rw [q] <;> exact ⟨by decide, by decide⟩
        have uh_30 := h_30.1
        have vh_30 := h_30.2
        refine lv_if_eq (tgt := 58) hx hb dX12_goesAhead_51 (by decide) (fun c_31 => ?_) (fun c_31 => ?_)
        · have tc_32 : (x_25).toInt = 0 := congrArg Int32.toInt c_31
          have h_33 : rg x_25 0 0 := rg_and h_30 (rg_of_eq c_31 (rg_k (0 : Int32) 0 rfl)) (by decide)
          have uh_33 := h_33.1
          have vh_33 := h_33.2
          exact K_19 _ _ _ hG hP hD hS (lv_sub hl [] rfl)
        · have tc_34 : (x_25).toInt ≠ 0 := fun q => c_31 (Int32.toInt_inj.mp q)
          have h_35 : rg x_25 1 1 := rg_ne c_31 h_30 0 rfl (by decide)
          have uh_35 := h_35.1
          have vh_35 := h_35.2
          refine lv_iconst (v := 1) hx hb dX12_goesAhead_54 (by decide) ?_
          refine lv_goto (tgt := 59) hx hb dX12_goesAhead_55 (by decide) ?_
          subst hQ
          exact W.zret (v := 1) hx hb hr (by decide) (fun t1 ht hW => ⟨⟨1, (σ, I, J, ri, rj, rq), rfl, ⟨rfl, (Or.inl ⟨rfl, trivial⟩)⟩, by rw [ht]; exact hP, va_K.moved hW.alike hK, hD⟩, hS.F ht⟩) hS.2.2 dX12_goesAhead_59
    · have tc_36 : (I 407 this).toInt = 1 := congrArg Int32.toInt c_1
      have h_37 : rg (I 407 this) 1 1 := rg_and (rg_full _) (rg_of_eq c_1 (rg_k (1 : Int32) 1 rfl)) (by decide)
      have uh_37 := h_37.1
      have vh_37 := h_37.2
      refine lv_aload_n hx hb dX12_goesAhead_8 rfl (lv_at hl 0 rfl) ?_
      obtain ⟨w_38, hR_w_38, hL_w_38, hK_w_38, hN_w_38, hT_w_38⟩ := sh_a hSH 408 (ci := 12) (kd := 13) (len := 5) rfl (by decide) hL_this hK_this
      refine pg_f (v := .ref w_38) (C := RX12) (T := TX12) (N := 31) hx hb hts (tw_i inlX12) hown hK hP hL_this hK_this (by decide) rfl 24 (by decide) (hts _ (tw_c tw_186)) (pq_hv rfl hR_w_38) dX12_goesAhead_9 ?_
      refine lv_aload_n hx hb dX12_goesAhead_12 rfl (lv_at hl 0 rfl) ?_
      refine lv_iload_n hx hb dX12_goesAhead_13 rfl (lv_at hl 1 rfl) ?_
      refine lv_iconst (v := 3) hx hb dX12_goesAhead_14 (by decide) ?_
      refine pk_i (va_runV (As := [.int a0, .int 3]) (rest := [.ref w_38]) ⟨hx, hb, hml, hown, hts⟩ (s_X12_personAt_c3 l D t σ I J ri rj rq H.size tg hSH hG.1 this a0 hL_this hK_this (rg_w h_a0 (by decide)) this_a hR_this_a hL_this_a hK_this_a hN_this_a hT_this_a) (cwV 2 hts (tw_V tw_437 tw_438 tw_439 tw_5 tw_440) rfl rfl rfl cv_yX12_personAt_2 ⟨Nat.le_of_ble_eq_true rfl, Nat.le_of_ble_eq_true rfl⟩) ⟨pq_blind, pq_recv hK hP hL_this hK_this (by decide) rfl, pq_pre hK hN hP hD⟩ rfl rfl hl.1 rfl (lv_room (Nat.le_of_ble_eq_true rfl)) dX12_goesAhead_15 ⟨Nat.le_of_ble_eq_true rfl, Nat.le_of_ble_eq_true rfl⟩) hD hS hA (fun x_39 σ1 μ1 H locs hw_40 hP hD hS => ?_)
      obtain ⟨hu_41, hp_44, hp_45, hr_43⟩ := hw_40
      obtain ⟨hu_41a, hu_41b⟩ := Prod.mk.inj hu_41
      rw [hu_41a, hu_41b] at hP hD
      have tt_46 := hp_45
      have h_47 : rg x_39 0 4 := rg_of_eq hp_44 hp0
      have uh_47 := h_47.1
      have vh_47 := h_47.2
      refine pl_i hx hb hK hP hL_w_38 hK_w_38 hN_w_38 (rg_in h_47 (by decide)) dX12_goesAhead_18 ?_
      refine lv_topi (fun x_48 ex_48 => ?_)
      refine lv_aload_n hx hb dX12_goesAhead_19 rfl (lv_at hl 0 rfl) ?_
      refine pg_f (v := .ref w_38) (C := RX12) (T := TX12) (N := 31) hx hb hts (tw_i inlX12) hown hK hP hL_this hK_this (by decide) rfl 24 (by decide) (hts _ (tw_c tw_186)) (pq_hv rfl hR_w_38) dX12_goesAhead_20 ?_
      refine lv_aload_n hx hb dX12_goesAhead_23 rfl (lv_at hl 0 rfl) ?_
      refine lv_iload_n hx hb dX12_goesAhead_24 rfl (lv_at hl 2 rfl) ?_
      refine lv_iconst (v := 3) hx hb dX12_goesAhead_25 (by decide) ?_
      refine pk_i (va_runV (As := [.int a1, .int 3]) (rest := [.ref w_38, .int x_48]) ⟨hx, hb, hml, hown, hts⟩ (s_X12_personAt_c3 l D t σ I J ri rj rq H.size tg hSH hG.1 this a1 hL_this hK_this (rg_w h_a1 (by decide)) this_a hR_this_a hL_this_a hK_this_a hN_this_a hT_this_a) (cwV 2 hts (tw_V tw_437 tw_438 tw_439 tw_5 tw_440) rfl rfl rfl cv_yX12_personAt_2 ⟨Nat.le_of_ble_eq_true rfl, Nat.le_of_ble_eq_true rfl⟩) ⟨pq_blind, pq_recv hK hP hL_this hK_this (by decide) rfl, pq_pre hK hN hP hD⟩ rfl rfl hl.1 rfl (lv_room (Nat.le_of_ble_eq_true rfl)) dX12_goesAhead_26 ⟨Nat.le_of_ble_eq_true rfl, Nat.le_of_ble_eq_true rfl⟩) hD hS hA (fun x_49 σ1 μ1 H locs hw_50 hP hD hS => ?_)
      obtain ⟨hu_51, hp_54, hp_55, hr_53⟩ := hw_50
      obtain ⟨hu_51a, hu_51b⟩ := Prod.mk.inj hu_51
      rw [hu_51a, hu_51b] at hP hD
      have tt_56 := hp_55
      have h_57 : rg x_49 0 4 := rg_of_eq hp_54 hp1
      have uh_57 := h_57.1
      have vh_57 := h_57.2
      refine pl_i hx hb hK hP hL_w_38 hK_w_38 hN_w_38 (rg_in h_57 (by decide)) dX12_goesAhead_29 ?_
      refine lv_topi (fun x_58 ex_58 => ?_)
      refine lv_icmp_ge (tgt := 37) hx hb dX12_goesAhead_30 (by decide) (fun c_59 => ?_) (fun c_59 => ?_)
      · have tc_60 : (x_58).toInt ≤ (x_48).toInt := Int32.le_iff_toInt_le.mp c_59
        refine lv_iconst (v := 0) hx hb dX12_goesAhead_37 (by decide) ?_
        subst hQ
        exact W.zret (v := 0) hx hb hr (by decide) (fun t1 ht hW => ⟨⟨0, (σ, I, J, ri, rj, rq), rfl, ⟨rfl, (Or.inr ⟨rfl, trivial⟩)⟩, by rw [ht]; exact hP, va_K.moved hW.alike hK, hD⟩, hS.F ht⟩) hS.2.2 dX12_goesAhead_38
      · have tc_61 : (x_48).toInt < (x_58).toInt := Int32.lt_iff_toInt_lt.mp (nle c_59)
        have h_62 : rg x_48 (-2147483648) 2147483646 := rg_lt1 (nle c_59) (rg_full _) (rg_full _) (by decide)
        have uh_62 := h_62.1
        have vh_62 := h_62.2
        have h_63 : rg x_58 (-2147483647) 2147483647 := rg_lt2 (nle c_59) (rg_full _) (rg_full _) (by decide)
        have uh_63 := h_63.1
        have vh_63 := h_63.2
        refine lv_iconst (v := 1) hx hb dX12_goesAhead_33 (by decide) ?_
        refine lv_goto (tgt := 38) hx hb dX12_goesAhead_34 (by decide) ?_
        subst hQ
        exact W.zret (v := 1) hx hb hr (by decide) (fun t1 ht hW => ⟨⟨1, (σ, I, J, ri, rj, rq), rfl, ⟨rfl, (Or.inl ⟨rfl, trivial⟩)⟩, by rw [ht]; exact hP, va_K.moved hW.alike hK, hD⟩, hS.F ht⟩) hS.2.2 dX12_goesAhead_38
  exact go _ _ _ hP hD hS hl

set_option maxHeartbeats 4000000 in
set_option maxRecDepth 100000 in
theorem s_X12_sails (l : Launch) (D : va_G) (t : pq_T) (σ : pq_S) (I : Nat → Nat → Int32) (J : Nat → Nat → Int64) (ri : Nat → Nat → Int32) (rj : Nat → Nat → Int64) (rq : Nat → Nat → Option Nat) (sz : Nat) (tg : Nat → Nat) (hSH : SH σ tg) (hG0 : GT tg I ri) (this : Nat) (a0 : Int32) (a1 : Int32) (a2 : Int32) (hL_this : this ∈ σ.1) (hK_this : σ.2.1 this = 12) (h_a0 : rg a0 0 39) (h_a1 : rg a1 0 4) : MetV l yX12_sails (wa yX12_sails cX12_sails 4 none) ({ frames := 0, cells := 0, slots := 0, locals := 0 }) [.ref this, .int a0, .int a1, .int a2] D t σ (I, J, ri, rj, rq) sz 0 0 (fun (u : pq_S × pq_M) => ∃ ri' : Nat → Nat → Int32, u = (σ, I, J, ri', rj, rq) ∧ GM [1403] tg σ I ri I ri' rq) := by
  refine Met.ofW (cc := cX12_sails) (maxL := 4) (ret := none) (by decide) rfl ?_
  intro p e s m args below meth c s₁ B hml hv
  obtain ⟨rfl, hsz, hP, hK, hD0, hN⟩ := hv
  have hx := B.exec
  have hb := B.bytes
  have hr := B.returns
  have hts := atoms_spec (ws := (wa yX12_sails cX12_sails 4 none)) B.pre
  have hown : s.vm.findClass RX12 = some m.cls := findClass_of_methodNamed B.named
  have hlocks := B.notSynchronized
  subst hsz
  have hD : va_D (pq_B t σ (I, J, ri, rj, rq) s.heap.size) (pq_P t σ (I, J, ri, rj, rq)) := hD0.self
  generalize hAe : pq_B t σ (I, J, ri, rj, rq) s.heap.size = A at hD ⊢
  have hA : ∀ q : Nat, s.heap.size ≤ q → A q := fun q h => by rw [← hAe]; exact Or.inr h
  have hS : va_S A s.heap s.heap [] := va_S.rf
  have hG : GM [1403] tg σ I ri I ri rq := ⟨hG0, fun _ _ _ => rfl, fun _ _ _ _ _ => rfl, fun _ _ _ _ _ _ => rfl⟩
  have hl := lv_entry ([.ref this, .int a0, .int a1, .int a2]) (n := 4) (Nat.le_of_ble_eq_true rfl)
  rw [lg_entry_eq]
  generalize (lg_sl ([.ref this, .int a0, .int a1, .int a2]) ++ List.replicate (4 - (lg_sl ([.ref this, .int a0, .int a1, .int a2])).length) Slot.unset).toArray = ls at hl ⊢
  have hl : lv_has ls 4 [(0, .ref this), (1, .int a0), (2, .int a1), (3, .int a2)] := hl
  refine q_gen (fun Q hQ => ?_)
  have go : ∀ (H : Heap) (locs : List Loc) (ls : Array Slot), va_P D vwCl (pq_P t σ (I, J, ri, rj, rq)) H → va_D A (pq_P t σ (I, J, ri, rj, rq)) → va_S A s.heap H locs → lv_has ls 4 [(0, .ref this), (1, .int a0), (2, .int a1), (3, .int a2)] → W p l e ({ frames := 0, cells := 0, slots := 0, locals := 0 } : Room) s m (List.toArray ([.ref this, .int a0, .int a1, .int a2] : List Value)) below meth c H locs 0 0 Q (F0 m 0 ls []) := by
    intro H locs ls hP hD hS hl
    refine lv_aload_n hx hb dX12_sails_0 rfl (lv_at hl 0 rfl) ?_
    obtain ⟨w_1, hR_w_1, hL_w_1, hK_w_1, hN_w_1, hT_w_1⟩ := sh_a hSH 384 (ci := 12) (kd := 13) (len := 12720) rfl (by decide) hL_this hK_this
    refine pg_f (v := .ref w_1) (C := RX12) (T := TX12) (N := 31) hx hb hts (tw_i inlX12) hown hK hP hL_this hK_this (by decide) rfl 0 (by decide) (hts _ (tw_c tw_176)) (pq_hv rfl hR_w_1) dX12_sails_1 ?_
    refine lv_sipush (v := 740) hx hb dX12_sails_4 (by decide) ?_
    refine lv_bipush (v := 12) hx hb dX12_sails_7 (by decide) ?_
    refine lv_iload_n hx hb dX12_sails_9 rfl (lv_at hl 1 rfl) ?_
    refine lv_imul hx hb dX12_sails_10 ?_
    refine lv_topi (fun x_2 ex_2 => ?_)
    have h_3 : rg x_2 0 468 := rg_of_eq ex_2 (rg_mul (rg_k (12 : Int32) 12 rfl) h_a0 (by decide))
    have uh_3 := h_3.1
    have vh_3 := h_3.2
    have tx_2 : (x_2).toInt = 12 * (a0).toInt := by rw [ex_2]; exact i_mul_rg (a2 := 12) (b2 := (a0).toInt) rfl rfl (rg_k (12 : Int32) 12 rfl) h_a0 (by decide)
    refine lv_iadd hx hb dX12_sails_11 ?_
    refine lv_topi (fun x_4 ex_4 => ?_)
    have h_5 : rg x_4 740 1208 := rg_of_eq ex_4 (rg_add (rg_k (740 : Int32) 740 rfl) h_3 (by decide))
    have uh_5 := h_5.1
    have vh_5 := h_5.2
    have tx_4 : (x_4).toInt = 740 + (x_2).toInt := by rw [ex_4]; exact i_add_rg (a2 := 740) (b2 := (x_2).toInt) rfl rfl (rg_k (740 : Int32) 740 rfl) h_3 (by decide)
    refine lv_iconst (v := 3) hx hb dX12_sails_12 (by decide) ?_
    refine lv_iadd hx hb dX12_sails_13 ?_
    refine lv_topi (fun x_6 ex_6 => ?_)
    have h_7 : rg x_6 743 1211 := rg_of_eq ex_6 (rg_add h_5 (rg_k (3 : Int32) 3 rfl) (by decide))
    have uh_7 := h_7.1
    have vh_7 := h_7.2
    have tx_6 : (x_6).toInt = (x_4).toInt + 3 := by rw [ex_6]; exact i_add_rg (a2 := (x_4).toInt) (b2 := 3) rfl rfl h_5 (rg_k (3 : Int32) 3 rfl) (by decide)
    refine lv_bipush (v := 100) hx hb dX12_sails_14 (by decide) ?_
    refine lv_iload_n hx hb dX12_sails_16 rfl (lv_at hl 2 rfl) ?_
    refine lv_iadd hx hb dX12_sails_17 ?_
    refine lv_topi (fun x_8 ex_8 => ?_)
    have h_9 : rg x_8 100 104 := rg_of_eq ex_8 (rg_add (rg_k (100 : Int32) 100 rfl) h_a1 (by decide))
    have uh_9 := h_9.1
    have vh_9 := h_9.2
    have tx_8 : (x_8).toInt = 100 + (a1).toInt := by rw [ex_8]; exact i_add_rg (a2 := 100) (b2 := (a1).toInt) rfl rfl (rg_k (100 : Int32) 100 rfl) h_a1 (by decide)
    refine pt_i hx hb hK hP hD hS hL_w_1 hK_w_1 hN_w_1 (rg_in h_7 (by decide)) dX12_sails_18 (fun r_10 H locs er_10 hP hD hS => ?_)
    have hG := GM.wp hG hT_w_1 (by decide) er_10 (zn_PERSON (c := a0.toNatClampNeg) (k := 3) (by have z_i := clampE x_6; have z_0 := clampE a0; omega) (rg_cl1 h_a0 (by decide)) (by decide)) (rg_w h_9 (by decide)) (by omega) (by decide)
    refine lv_aload_n hx hb dX12_sails_19 rfl (lv_at hl 0 rfl) ?_
    refine pg_f (v := .ref w_1) (C := RX12) (T := TX12) (N := 31) hx hb hts (tw_i inlX12) hown hK hP hL_this hK_this (by decide) rfl 0 (by decide) (hts _ (tw_c tw_176)) (pq_hv rfl hR_w_1) dX12_sails_20 ?_
    refine lv_sipush (v := 740) hx hb dX12_sails_23 (by decide) ?_
    refine lv_bipush (v := 12) hx hb dX12_sails_26 (by decide) ?_
    refine lv_iload_n hx hb dX12_sails_28 rfl (lv_at hl 1 rfl) ?_
    refine lv_imul hx hb dX12_sails_29 ?_
    refine lv_topi (fun x_11 ex_11 => ?_)
    have h_12 : rg x_11 0 468 := rg_of_eq ex_11 (rg_mul (rg_k (12 : Int32) 12 rfl) h_a0 (by decide))
    have uh_12 := h_12.1
    have vh_12 := h_12.2
    have tx_11 : (x_11).toInt = 12 * (a0).toInt := by rw [ex_11]; exact i_mul_rg (a2 := 12) (b2 := (a0).toInt) rfl rfl (rg_k (12 : Int32) 12 rfl) h_a0 (by decide)
    refine lv_iadd hx hb dX12_sails_30 ?_
    refine lv_topi (fun x_13 ex_13 => ?_)
    have h_14 : rg x_13 740 1208 := rg_of_eq ex_13 (rg_add (rg_k (740 : Int32) 740 rfl) h_12 (by decide))
    have uh_14 := h_14.1
    have vh_14 := h_14.2
    have tx_13 : (x_13).toInt = 740 + (x_11).toInt := by rw [ex_13]; exact i_add_rg (a2 := 740) (b2 := (x_11).toInt) rfl rfl (rg_k (740 : Int32) 740 rfl) h_12 (by decide)
    refine lv_bipush (v := 7) hx hb dX12_sails_31 (by decide) ?_
    refine lv_iadd hx hb dX12_sails_33 ?_
    refine lv_topi (fun x_15 ex_15 => ?_)
    have h_16 : rg x_15 747 1215 := rg_of_eq ex_15 (rg_add h_14 (rg_k (7 : Int32) 7 rfl) (by decide))
    have uh_16 := h_16.1
    have vh_16 := h_16.2
    have tx_15 : (x_15).toInt = (x_13).toInt + 7 := by rw [ex_15]; exact i_add_rg (a2 := (x_13).toInt) (b2 := 7) rfl rfl h_14 (rg_k (7 : Int32) 7 rfl) (by decide)
    refine lv_iload_n hx hb dX12_sails_34 rfl (lv_at hl 3 rfl) ?_
    refine pt_i hx hb hK hP hD hS hL_w_1 hK_w_1 hN_w_1 (rg_in h_16 (by decide)) dX12_sails_35 (fun r_17 H locs er_17 hP hD hS => ?_)
    have hG := GM.wz hG hT_w_1 (by decide) er_17 (zn_PERSON (c := a0.toNatClampNeg) (k := 7) (by have z_i := clampE x_15; have z_0 := clampE a0; omega) (rg_cl1 h_a0 (by decide)) (by decide)) rfl (rg_w (rg_full _) (by decide)) (by decide)
    subst hQ
    exact W.vret hx hb hr (fun t1 ht hW => ⟨⟨(σ, I, J, r_17, rj, rq), rfl, ⟨r_17, rfl, hG⟩, by rw [ht]; exact hP, va_K.moved hW.alike hK, hD⟩, hS.F ht⟩) hS.2.2 dX12_sails_36
  exact go _ _ _ hP hD hS hl

set_option maxHeartbeats 4000000 in
set_option maxRecDepth 100000 in
theorem s_X12_isOfKin (l : Launch) (D : va_G) (t : pq_T) (σ : pq_S) (I : Nat → Nat → Int32) (J : Nat → Nat → Int64) (ri : Nat → Nat → Int32) (rj : Nat → Nat → Int64) (rq : Nat → Nat → Option Nat) (sz : Nat) (tg : Nat → Nat) (hSH : SH σ tg) (hG0 : GT tg I ri) (this : Nat) (a0 : Int32) (a1 : Int32) (a2 : Int32) (hL_this : this ∈ σ.1) (hK_this : σ.2.1 this = 12) (h_a0 : rg a0 0 39) (h_a1 : rg a1 0 39) : MetI l yX12_isOfKin (wa yX12_isOfKin cX12_isOfKin 4 (some .boolean)) ({ frames := 1, cells := 0, slots := 0, locals := 22 }) [.ref this, .int a0, .int a1, .int a2] D t σ (I, J, ri, rj, rq) sz 0 0 (fun (r : Int32) (u : pq_S × pq_M) => u = (σ, I, J, ri, rj, rq) ∧ ((r = 1 ∧ True) ∨ (r = 0 ∧ True))) := by
  refine Met.ofW (cc := cX12_isOfKin) (maxL := 4) (ret := (some .boolean)) (by decide) rfl ?_
  intro p e s m args below meth c s₁ B hml hv
  obtain ⟨rfl, hsz, hP, hK, hD0, hN⟩ := hv
  have hx := B.exec
  have hb := B.bytes
  have hr := B.returns
  have hts := atoms_spec (ws := (wa yX12_isOfKin cX12_isOfKin 4 (some .boolean))) B.pre
  have hown : s.vm.findClass RX12 = some m.cls := findClass_of_methodNamed B.named
  have hlocks := B.notSynchronized
  subst hsz
  have hD : va_D (pq_B t σ (I, J, ri, rj, rq) s.heap.size) (pq_P t σ (I, J, ri, rj, rq)) := hD0.self
  generalize hAe : pq_B t σ (I, J, ri, rj, rq) s.heap.size = A at hD ⊢
  have hA : ∀ q : Nat, s.heap.size ≤ q → A q := fun q h => by rw [← hAe]; exact Or.inr h
  have hS : va_S A s.heap s.heap [] := va_S.rf
  have hG : GM [] tg σ I ri I ri rq := ⟨hG0, fun _ _ _ => rfl, fun _ _ _ _ _ => rfl, fun _ _ _ _ _ _ => rfl⟩
  have hl := lv_entry ([.ref this, .int a0, .int a1, .int a2]) (n := 4) (Nat.le_of_ble_eq_true rfl)
  rw [lg_entry_eq]
  generalize (lg_sl ([.ref this, .int a0, .int a1, .int a2]) ++ List.replicate (4 - (lg_sl ([.ref this, .int a0, .int a1, .int a2])).length) Slot.unset).toArray = ls at hl ⊢
  have hl : lv_has ls 4 [(0, .ref this), (1, .int a0), (2, .int a1), (3, .int a2)] := hl
  refine q_gen (fun Q hQ => ?_)
  have go : ∀ (H : Heap) (locs : List Loc) (ls : Array Slot), va_P D vwCl (pq_P t σ (I, J, ri, rj, rq)) H → va_D A (pq_P t σ (I, J, ri, rj, rq)) → va_S A s.heap H locs → lv_has ls 4 [(0, .ref this), (1, .int a0), (2, .int a1), (3, .int a2)] → W p l e ({ frames := 1, cells := 0, slots := 0, locals := 22 } : Room) s m (List.toArray ([.ref this, .int a0, .int a1, .int a2] : List Value)) below meth c H locs 0 0 Q (F0 m 0 ls []) := by
    intro H locs ls hP hD hS hl
    refine lv_iload_n hx hb dX12_isOfKin_0 rfl (lv_at hl 1 rfl) ?_
    refine lv_iload_n hx hb dX12_isOfKin_1 rfl (lv_at hl 2 rfl) ?_
    have K_40 : ∀  (H : Heap) (locs : List Loc) (ls : Array Slot), GM [] tg σ I ri I ri rq → va_P D vwCl (pq_P t σ (I, J, ri, rj, rq)) H → va_D A (pq_P t σ (I, J, ri, rj, rq)) → va_S A s.heap H locs → lv_has ls 4 [] → W p l e ({ frames := 1, cells := 0, slots := 0, locals := 22 } : Room) s m (List.toArray ([.ref this, .int a0, .int a1, .int a2] : List Value)) below meth c H locs 0 0 Q (F0 m 39 ls []) := by
      intro H locs ls hG hP hD hS hl
      refine lv_iconst (v := 1) hx hb dX12_isOfKin_39 (by decide) ?_
      refine lv_goto (tgt := 44) hx hb dX12_isOfKin_40 (by decide) ?_
      subst hQ
      exact W.zret (v := 1) hx hb hr (by decide) (fun t1 ht hW => ⟨⟨1, (σ, I, J, ri, rj, rq), rfl, ⟨rfl, (Or.inl ⟨rfl, trivial⟩)⟩, by rw [ht]; exact hP, va_K.moved hW.alike hK, hD⟩, hS.F ht⟩) hS.2.2 dX12_isOfKin_44
    refine lv_icmp_eq (tgt := 39) hx hb dX12_isOfKin_2 (by decide) (fun c_41 => ?_) (fun c_41 => ?_)
    · have tc_42 : (a0).toInt = (a1).toInt := congrArg Int32.toInt c_41
      exact K_40 _ _ _ hG hP hD hS (lv_sub hl [] rfl)
    · have tc_43 : (a0).toInt ≠ (a1).toInt := fun q => c_41 (Int32.toInt_inj.mp q)
      refine lv_aload_n hx hb dX12_isOfKin_5 rfl (lv_at hl 0 rfl) ?_
      obtain ⟨w_44, hR_w_44, hL_w_44, hK_w_44, hN_w_44, hT_w_44⟩ := sh_a hSH 412 (ci := 12) (kd := 15) (len := 40) rfl (by decide) hL_this hK_this
      refine pg_f (v := .ref w_44) (C := RX12) (T := TX12) (N := 31) hx hb hts (tw_i inlX12) hown hK hP hL_this hK_this (by decide) rfl 28 (by decide) (hts _ (tw_c tw_189)) (pq_hv rfl hR_w_44) dX12_isOfKin_6 ?_
      refine lv_iload_n hx hb dX12_isOfKin_9 rfl (lv_at hl 1 rfl) ?_
      refine pl_z hx hb hK hP hL_w_44 hK_w_44 hN_w_44 (rg_in h_a0 (by decide)) dX12_isOfKin_10 ?_
      refine lv_topi (fun x_45 ex_45 => ?_)
      have h_46 : rg x_45 0 1 := rg_of_eq ex_45 (GM.rR hG hT_w_44 rfl)
      have uh_46 := h_46.1
      have vh_46 := h_46.2
      have K_80 : ∀  (H : Heap) (locs : List Loc) (ls : Array Slot), GM [] tg σ I ri I ri rq → va_P D vwCl (pq_P t σ (I, J, ri, rj, rq)) H → va_D A (pq_P t σ (I, J, ri, rj, rq)) → va_S A s.heap H locs → lv_has ls 4 [] → W p l e ({ frames := 1, cells := 0, slots := 0, locals := 22 } : Room) s m (List.toArray ([.ref this, .int a0, .int a1, .int a2] : List Value)) below meth c H locs 0 0 Q (F0 m 43 ls []) := by
        intro H locs ls hG hP hD hS hl
        refine lv_iconst (v := 0) hx hb dX12_isOfKin_43 (by decide) ?_
        subst hQ
        exact W.zret (v := 0) hx hb hr (by decide) (fun t1 ht hW => ⟨⟨0, (σ, I, J, ri, rj, rq), rfl, ⟨rfl, (Or.inr ⟨rfl, trivial⟩)⟩, by rw [ht]; exact hP, va_K.moved hW.alike hK, hD⟩, hS.F ht⟩) hS.2.2 dX12_isOfKin_44
      refine lv_if_ne (tgt := 43) hx hb dX12_isOfKin_11 (by decide) (fun c_81 => ?_) (fun c_81 => ?_)
      · have tc_82 : (x_45).toInt ≠ 0 := fun q => c_81 (Int32.toInt_inj.mp q)
        have h_83 : rg x_45 1 1 := rg_ne c_81 h_46 0 rfl (by decide)
        have uh_83 := h_83.1
        have vh_83 := h_83.2
        exact K_80 _ _ _ hG hP hD hS (lv_sub hl [] rfl)
      · have tc_84 : (x_45).toInt = 0 := congrArg Int32.toInt c_81
        have h_85 : rg x_45 0 0 := rg_and h_46 (rg_of_eq c_81 (rg_k (0 : Int32) 0 rfl)) (by decide)
        have uh_85 := h_85.1
        have vh_85 := h_85.2
        refine lv_aload_n hx hb dX12_isOfKin_14 rfl (lv_at hl 0 rfl) ?_
        refine lv_iload_n hx hb dX12_isOfKin_15 rfl (lv_at hl 1 rfl) ?_
        refine lv_iconst (v := 0) hx hb dX12_isOfKin_16 (by decide) ?_
        obtain ⟨w_86, hR_w_86, hL_w_86, hK_w_86, hN_w_86, hT_w_86⟩ := sh_a hSH 384 (ci := 12) (kd := 13) (len := 12720) rfl (by decide) hL_this hK_this
        refine pk_i (va_runV (As := [.int a0, .int 0]) (rest := []) ⟨hx, hb, hml, hown, hts⟩ (s_X12_personAt_c0 l D t σ I J ri rj rq H.size tg hSH hG.1 this a0 hL_this hK_this (rg_w h_a0 (by decide)) w_86 hR_w_86 hL_w_86 hK_w_86 hN_w_86 hT_w_86) (cwV 2 hts (tw_V tw_437 tw_438 tw_439 tw_5 tw_440) rfl rfl rfl cv_yX12_personAt_2 ⟨Nat.le_of_ble_eq_true rfl, Nat.le_of_ble_eq_true rfl⟩) ⟨pq_blind, pq_recv hK hP hL_this hK_this (by decide) rfl, pq_pre hK hN hP hD⟩ rfl rfl hl.1 rfl (lv_room (Nat.le_of_ble_eq_true rfl)) dX12_isOfKin_17 ⟨Nat.le_of_ble_eq_true rfl, Nat.le_of_ble_eq_true rfl⟩) hD hS hA (fun x_87 σ1 μ1 H locs hw_88 hP hD hS => ?_)
        obtain ⟨hu_89, hp_92⟩ := hw_88
        obtain ⟨hu_89a, hu_89b⟩ := Prod.mk.inj hu_89
        rw [hu_89a, hu_89b] at hP hD
        refine lv_aload_n hx hb dX12_isOfKin_20 rfl (lv_at hl 0 rfl) ?_
        refine lv_iload_n hx hb dX12_isOfKin_21 rfl (lv_at hl 2 rfl) ?_
        refine lv_iconst (v := 0) hx hb dX12_isOfKin_22 (by decide) ?_
        refine pk_i (va_runV (As := [.int a1, .int 0]) (rest := [.int x_87]) ⟨hx, hb, hml, hown, hts⟩ (s_X12_personAt_c0 l D t σ I J ri rj rq H.size tg hSH hG.1 this a1 hL_this hK_this (rg_w h_a1 (by decide)) w_86 hR_w_86 hL_w_86 hK_w_86 hN_w_86 hT_w_86) (cwV 2 hts (tw_V tw_437 tw_438 tw_439 tw_5 tw_440) rfl rfl rfl cv_yX12_personAt_2 ⟨Nat.le_of_ble_eq_true rfl, Nat.le_of_ble_eq_true rfl⟩) ⟨pq_blind, pq_recv hK hP hL_this hK_this (by decide) rfl, pq_pre hK hN hP hD⟩ rfl rfl hl.1 rfl (lv_room (Nat.le_of_ble_eq_true rfl)) dX12_isOfKin_23 ⟨Nat.le_of_ble_eq_true rfl, Nat.le_of_ble_eq_true rfl⟩) hD hS hA (fun x_93 σ1 μ1 H locs hw_94 hP hD hS => ?_)
        obtain ⟨hu_95, hp_98⟩ := hw_94
        obtain ⟨hu_95a, hu_95b⟩ := Prod.mk.inj hu_95
        rw [hu_95a, hu_95b] at hP hD
        refine lv_icmp_ne (tgt := 43) hx hb dX12_isOfKin_26 (by decide) (fun c_99 => ?_) (fun c_99 => ?_)
        · have tc_100 : (x_87).toInt ≠ (x_93).toInt := fun q => c_99 (Int32.toInt_inj.mp q)
          exact K_80 _ _ _ hG hP hD hS (lv_sub hl [] rfl)
        · have tc_101 : (x_87).toInt = (x_93).toInt := congrArg Int32.toInt c_99
          refine lv_aload_n hx hb dX12_isOfKin_29 rfl (lv_at hl 0 rfl) ?_
          refine lv_iload_n hx hb dX12_isOfKin_30 rfl (lv_at hl 1 rfl) ?_
          refine lv_iconst (v := 3) hx hb dX12_isOfKin_31 (by decide) ?_
          refine pk_i (va_runV (As := [.int a0, .int 3]) (rest := []) ⟨hx, hb, hml, hown, hts⟩ (s_X12_personAt_c3 l D t σ I J ri rj rq H.size tg hSH hG.1 this a0 hL_this hK_this (rg_w h_a0 (by decide)) w_86 hR_w_86 hL_w_86 hK_w_86 hN_w_86 hT_w_86) (cwV 2 hts (tw_V tw_437 tw_438 tw_439 tw_5 tw_440) rfl rfl rfl cv_yX12_personAt_2 ⟨Nat.le_of_ble_eq_true rfl, Nat.le_of_ble_eq_true rfl⟩) ⟨pq_blind, pq_recv hK hP hL_this hK_this (by decide) rfl, pq_pre hK hN hP hD⟩ rfl rfl hl.1 rfl (lv_room (Nat.le_of_ble_eq_true rfl)) dX12_isOfKin_32 ⟨Nat.le_of_ble_eq_true rfl, Nat.le_of_ble_eq_true rfl⟩) hD hS hA (fun x_102 σ1 μ1 H locs hw_103 hP hD hS => ?_)
          obtain ⟨hu_104, hp_107, hp_108, hr_106⟩ := hw_103
          obtain ⟨hu_104a, hu_104b⟩ := Prod.mk.inj hu_104
          rw [hu_104a, hu_104b] at hP hD
          have tt_109 := hp_108
          refine lv_iload_n hx hb dX12_isOfKin_35 rfl (lv_at hl 3 rfl) ?_
          refine lv_icmp_ne (tgt := 43) hx hb dX12_isOfKin_36 (by decide) (fun c_110 => ?_) (fun c_110 => ?_)
          · have tc_111 : (x_102).toInt ≠ (a2).toInt := fun q => c_110 (Int32.toInt_inj.mp q)
            exact K_80 _ _ _ hG hP hD hS (lv_sub hl [] rfl)
          · have tc_112 : (x_102).toInt = (a2).toInt := congrArg Int32.toInt c_110
            have h_113 : rg a2 0 300 := rg_and (rg_full _) (rg_of_eq c_110.symm hr_106) (by decide)
            have uh_113 := h_113.1
            have vh_113 := h_113.2
            exact K_40 _ _ _ hG hP hD hS (lv_sub hl [] rfl)
  exact go _ _ _ hP hD hS hl

set_option maxHeartbeats 4000000 in
set_option maxRecDepth 100000 in
theorem s_X12_family (l : Launch) (D : va_G) (t : pq_T) (σ : pq_S) (I : Nat → Nat → Int32) (J : Nat → Nat → Int64) (ri : Nat → Nat → Int32) (rj : Nat → Nat → Int64) (rq : Nat → Nat → Option Nat) (sz : Nat) (tg : Nat → Nat) (hSH : SH σ tg) (hG0 : GT tg I ri) (this : Nat) (a0 : Int32) (a1 : Int32) (a2 : Int32) (hL_this : this ∈ σ.1) (hK_this : σ.2.1 this = 12) (h_a0 : rg a0 0 39) : MetI l yX12_family (wa yX12_family cX12_family 9 (some .int)) ({ frames := 3, cells := 0, slots := 0, locals := 66 }) [.ref this, .int a0, .int a1, .int a2] D t σ (I, J, ri, rj, rq) sz 0 0 (fun (r : Int32) (u : pq_S × pq_M) => ∃ ri' : Nat → Nat → Int32, u = (σ, I, J, ri', rj, rq) ∧ GM [1403] tg σ I ri I ri' rq) := by
  refine Met.ofW (cc := cX12_family) (maxL := 9) (ret := (some .int)) (by decide) rfl ?_
  intro p e s m args below meth c s₁ B hml hv
  obtain ⟨rfl, hsz, hP, hK, hD0, hN⟩ := hv
  have hx := B.exec
  have hb := B.bytes
  have hr := B.returns
  have hts := atoms_spec (ws := (wa yX12_family cX12_family 9 (some .int))) B.pre
  have hown : s.vm.findClass RX12 = some m.cls := findClass_of_methodNamed B.named
  have hlocks := B.notSynchronized
  subst hsz
  have hD : va_D (pq_B t σ (I, J, ri, rj, rq) s.heap.size) (pq_P t σ (I, J, ri, rj, rq)) := hD0.self
  generalize hAe : pq_B t σ (I, J, ri, rj, rq) s.heap.size = A at hD ⊢
  have hA : ∀ q : Nat, s.heap.size ≤ q → A q := fun q h => by rw [← hAe]; exact Or.inr h
  have hS : va_S A s.heap s.heap [] := va_S.rf
  have hG : GM [1403] tg σ I ri I ri rq := ⟨hG0, fun _ _ _ => rfl, fun _ _ _ _ _ => rfl, fun _ _ _ _ _ _ => rfl⟩
  have hl := lv_entry ([.ref this, .int a0, .int a1, .int a2]) (n := 9) (Nat.le_of_ble_eq_true rfl)
  rw [lg_entry_eq]
  generalize (lg_sl ([.ref this, .int a0, .int a1, .int a2]) ++ List.replicate (9 - (lg_sl ([.ref this, .int a0, .int a1, .int a2])).length) Slot.unset).toArray = ls at hl ⊢
  have hl : lv_has ls 9 [(0, .ref this), (1, .int a0), (2, .int a1), (3, .int a2)] := hl
  refine q_gen (fun Q hQ => ?_)
  have go : ∀ (H : Heap) (locs : List Loc) (ls : Array Slot), va_P D vwCl (pq_P t σ (I, J, ri, rj, rq)) H → va_D A (pq_P t σ (I, J, ri, rj, rq)) → va_S A s.heap H locs → lv_has ls 9 [(0, .ref this), (1, .int a0), (2, .int a1), (3, .int a2)] → W p l e ({ frames := 3, cells := 0, slots := 0, locals := 66 } : Room) s m (List.toArray ([.ref this, .int a0, .int a1, .int a2] : List Value)) below meth c H locs 0 0 Q (F0 m 0 ls []) := by
    intro H locs ls hP hD hS hl
    refine lv_aload_n hx hb dX12_family_0 rfl (lv_at hl 0 rfl) ?_
    refine lv_iload_n hx hb dX12_family_1 rfl (lv_at hl 1 rfl) ?_
    refine lv_iconst (v := 3) hx hb dX12_family_2 (by decide) ?_
    obtain ⟨w_1, hR_w_1, hL_w_1, hK_w_1, hN_w_1, hT_w_1⟩ := sh_a hSH 384 (ci := 12) (kd := 13) (len := 12720) rfl (by decide) hL_this hK_this
    refine pk_i (va_runV (As := [.int a0, .int 3]) (rest := []) ⟨hx, hb, hml, hown, hts⟩ (s_X12_personAt_c3 l D t σ I J ri rj rq H.size tg hSH hG.1 this a0 hL_this hK_this (rg_w h_a0 (by decide)) w_1 hR_w_1 hL_w_1 hK_w_1 hN_w_1 hT_w_1) (cwV 2 hts (tw_V tw_437 tw_438 tw_439 tw_5 tw_440) rfl rfl rfl cv_yX12_personAt_2 ⟨Nat.le_of_ble_eq_true rfl, Nat.le_of_ble_eq_true rfl⟩) ⟨pq_blind, pq_recv hK hP hL_this hK_this (by decide) rfl, pq_pre hK hN hP hD⟩ rfl rfl hl.1 rfl (lv_room (Nat.le_of_ble_eq_true rfl)) dX12_family_3 ⟨Nat.le_of_ble_eq_true rfl, Nat.le_of_ble_eq_true rfl⟩) hD hS hA (fun x_2 σ1 μ1 H locs hw_3 hP hD hS => ?_)
    obtain ⟨hu_4, hp_7, hp_8, hr_6⟩ := hw_3
    obtain ⟨hu_4a, hu_4b⟩ := Prod.mk.inj hu_4
    rw [hu_4a, hu_4b] at hP hD
    have tt_9 := hp_8
    refine lv_istore (lv' := [(4, .int x_2), (0, .ref this), (1, .int a0), (2, .int a1), (3, .int a2)]) hx hb dX12_family_6 hl (by decide) rfl (fun ls hl => ?_)
    refine lv_iconst (v := 0) hx hb dX12_family_8 (by decide) ?_
    refine lv_istore (lv' := [(5, .int 0), (4, .int x_2), (0, .ref this), (1, .int a0), (2, .int a1), (3, .int a2)]) hx hb dX12_family_9 hl (by decide) rfl (fun ls hl => ?_)
    refine lv_iconst (v := 0) hx hb dX12_family_11 (by decide) ?_
    refine lv_istore (lv' := [(6, .int 0), (5, .int 0), (4, .int x_2), (0, .ref this), (1, .int a0), (2, .int a1), (3, .int a2)]) hx hb dX12_family_12 hl (by decide) rfl (fun ls hl => ?_)
    have L_178039 : ∀ (n_178038 : Nat) (x_169469 : Int32) (x_169470 : Int32) (H : Heap) (locs : List Loc) (ls : Array Slot), rg x_169470 0 40 → (40 - (x_169470).toInt).toNat < n_178038 → GM [1403] tg σ I ri I ri rq → va_P D vwCl (pq_P t σ (I, J, ri, rj, rq)) H → va_D A (pq_P t σ (I, J, ri, rj, rq)) → va_S A s.heap H locs → lv_has ls 9 [(0, .ref this), (1, .int a0), (2, .int a1), (3, .int a2), (4, .int x_2), (5, .int x_169469), (6, .int x_169470)] → W p l e ({ frames := 3, cells := 0, slots := 0, locals := 66 } : Room) s m (List.toArray ([.ref this, .int a0, .int a1, .int a2] : List Value)) below meth c H locs 0 0 Q (F0 m 14 ls []) := by
      intro n_178038
      induction n_178038 with
      | zero => intro x_169469 x_169470 H locs ls h_178042 hm_178037 hG hP hD hS hl; exact absurd hm_178037 (Nat.not_lt_zero _)
      | succ n_178038 ih_178040 =>
        intro x_169469 x_169470 H locs ls h_178042 hm_178037 hG hP hD hS hl
        have uh_178042 := h_178042.1
        have vh_178042 := h_178042.2
        refine lv_iload hx hb dX12_family_14 (lv_at hl 6 rfl) ?_
        refine lv_aload_n hx hb dX12_family_16 rfl (lv_at hl 0 rfl) ?_
        refine pg_f (v := .ref w_1) (C := RX12) (T := TX12) (N := 31) hx hb hts (tw_i inlX12) hown hK hP hL_this hK_this (by decide) rfl 0 (by decide) (hts _ (tw_c tw_176)) (pq_hv rfl hR_w_1) dX12_family_17 ?_
        refine lv_iconst (v := 5) hx hb dX12_family_20 (by decide) ?_
        refine pl_i hx hb hK hP hL_w_1 hK_w_1 hN_w_1 (vp_in_iff.mpr (by decide)) dX12_family_21 ?_
        refine lv_tov (ri w_1 5) rfl ?_
        have h_178043 : rg (ri w_1 5) 0 40 := GM.z0 hG0 (by rw [hT_w_1]; decide) (i := 5) (k := 5) (by decide) rfl
        have uh_178043 := h_178043.1
        have vh_178043 := h_178043.2
        refine lv_icmp_ge (tgt := 53) hx hb dX12_family_22 (by decide) (fun c_178044 => ?_) (fun c_178044 => ?_)
        · have tc_178045 : (ri w_1 5).toInt ≤ (x_169470).toInt := Int32.le_iff_toInt_le.mp c_178044
          refine lv_iconst (v := 0) hx hb dX12_family_53 (by decide) ?_
          refine lv_istore (lv' := [(6, .int 0), (0, .ref this), (1, .int a0), (2, .int a1), (3, .int a2), (4, .int x_2), (5, .int x_169469)]) hx hb dX12_family_54 hl (by decide) rfl (fun ls hl => ?_)
          have L_185518 : ∀ (n_185517 : Nat) (x_184448 : Int32) (H : Heap) (locs : List Loc) (ls : Array Slot), rg x_184448 0 5 → (5 - (x_184448).toInt).toNat < n_185517 → GM [1403] tg σ I ri I ri rq → va_P D vwCl (pq_P t σ (I, J, ri, rj, rq)) H → va_D A (pq_P t σ (I, J, ri, rj, rq)) → va_S A s.heap H locs → lv_has ls 9 [(0, .ref this), (1, .int a0), (2, .int a1), (3, .int a2), (4, .int x_2), (5, .int x_169469), (6, .int x_184448)] → W p l e ({ frames := 3, cells := 0, slots := 0, locals := 66 } : Room) s m (List.toArray ([.ref this, .int a0, .int a1, .int a2] : List Value)) below meth c H locs 0 0 Q (F0 m 56 ls []) := by
            intro n_185517
            induction n_185517 with
            | zero => intro x_184448 H locs ls h_185521 hm_185516 hG hP hD hS hl; exact absurd hm_185516 (Nat.not_lt_zero _)
            | succ n_185517 ih_185519 =>
              intro x_184448 H locs ls h_185521 hm_185516 hG hP hD hS hl
              have uh_185521 := h_185521.1
              have vh_185521 := h_185521.2
              refine lv_iload hx hb dX12_family_56 (lv_at hl 6 rfl) ?_
              refine lv_aload_n hx hb dX12_family_58 rfl (lv_at hl 0 rfl) ?_
              refine pg_f (v := .ref w_1) (C := RX12) (T := TX12) (N := 31) hx hb hts (tw_i inlX12) hown hK hP hL_this hK_this (by decide) rfl 0 (by decide) (hts _ (tw_c tw_176)) (pq_hv rfl hR_w_1) dX12_family_59 ?_
              refine lv_iconst (v := 4) hx hb dX12_family_62 (by decide) ?_
              refine pl_i hx hb hK hP hL_w_1 hK_w_1 hN_w_1 (vp_in_iff.mpr (by decide)) dX12_family_63 ?_
              refine lv_tov (ri w_1 4) rfl ?_
              have h_185522 : rg (ri w_1 4) 0 5 := GM.z0 hG0 (by rw [hT_w_1]; decide) (i := 4) (k := 4) (by decide) rfl
              have uh_185522 := h_185522.1
              have vh_185522 := h_185522.2
              have K_186588 : ∀  (H : Heap) (locs : List Loc) (ls : Array Slot), GM [1403] tg σ I ri I ri rq → va_P D vwCl (pq_P t σ (I, J, ri, rj, rq)) H → va_D A (pq_P t σ (I, J, ri, rj, rq)) → va_S A s.heap H locs → lv_has ls 9 [(0, .ref this), (1, .int a0), (2, .int a1), (3, .int a2), (4, .int x_2), (5, .int x_169469), (6, .int x_184448)] → W p l e ({ frames := 3, cells := 0, slots := 0, locals := 66 } : Room) s m (List.toArray ([.ref this, .int a0, .int a1, .int a2] : List Value)) below meth c H locs 0 0 Q (F0 m 84 ls []) := by
                intro H locs ls hG hP hD hS hl
                refine lv_iload hx hb dX12_family_84 (lv_at hl 5 rfl) ?_
                refine lv_iload_n hx hb dX12_family_86 rfl (lv_at hl 3 rfl) ?_
                have K_187637 : ∀  (H : Heap) (locs : List Loc) (ls : Array Slot), rg (ri w_1 4) 1 5 → rg (x_184448) 0 4 → GM [1403] tg σ I ri I ri rq → va_P D vwCl (pq_P t σ (I, J, ri, rj, rq)) H → va_D A (pq_P t σ (I, J, ri, rj, rq)) → va_S A s.heap H locs → lv_has ls 9 [(0, .ref this), (1, .int a0), (2, .int a1), (4, .int x_2), (5, .int x_169469), (6, .int x_184448)] → W p l e ({ frames := 3, cells := 0, slots := 0, locals := 66 } : Room) s m (List.toArray ([.ref this, .int a0, .int a1, .int a2] : List Value)) below meth c H locs 0 0 Q (F0 m 106 ls [.int 1]) := by
                  intro H locs ls h_187640 h_187641 hG hP hD hS hl
                  have uh_187640 := h_187640.1
                  have vh_187640 := h_187640.2
                  have uh_187641 := h_187641.1
                  have vh_187641 := h_187641.2
                  refine lv_istore (lv' := [(7, .int 1), (0, .ref this), (1, .int a0), (2, .int a1), (4, .int x_2), (5, .int x_169469), (6, .int x_184448)]) hx hb dX12_family_106 hl (by decide) rfl (fun ls hl => ?_)
                  refine lv_iconst (v := 0) hx hb dX12_family_108 (by decide) ?_
                  refine lv_istore (lv' := [(8, .int 0), (7, .int 1), (0, .ref this), (1, .int a0), (2, .int a1), (4, .int x_2), (5, .int x_169469), (6, .int x_184448)]) hx hb dX12_family_109 hl (by decide) rfl (fun ls hl => ?_)
                  have L_188210 : ∀ (n_188209 : Nat) (x_188165 : Int32) (ri_188166 : Nat → Nat → Int32) (H : Heap) (locs : List Loc) (ls : Array Slot), rg x_188165 0 40 → (40 - (x_188165).toInt).toNat < n_188209 → GM [1403] tg σ I ri I ri_188166 rq → va_P D vwCl (pq_P t σ (I, J, ri_188166, rj, rq)) H → va_D A (pq_P t σ (I, J, ri_188166, rj, rq)) → va_S A s.heap H locs → lv_has ls 9 [(0, .ref this), (1, .int a0), (2, .int a1), (4, .int x_2), (5, .int x_169469), (6, .int x_184448), (7, .int 1), (8, .int x_188165)] → W p l e ({ frames := 3, cells := 0, slots := 0, locals := 66 } : Room) s m (List.toArray ([.ref this, .int a0, .int a1, .int a2] : List Value)) below meth c H locs 0 0 Q (F0 m 111 ls []) := by
                    intro n_188209
                    induction n_188209 with
                    | zero => intro x_188165 ri_188166 H locs ls h_188213 hm_188208 hG hP hD hS hl; exact absurd hm_188208 (Nat.not_lt_zero _)
                    | succ n_188209 ih_188211 =>
                      intro x_188165 ri_188166 H locs ls h_188213 hm_188208 hG hP hD hS hl
                      have uh_188213 := h_188213.1
                      have vh_188213 := h_188213.2
                      refine lv_iload hx hb dX12_family_111 (lv_at hl 7 rfl) ?_
                      refine lv_aload_n hx hb dX12_family_113 rfl (lv_at hl 0 rfl) ?_
                      refine pg_f (v := .ref w_1) (C := RX12) (T := TX12) (N := 31) hx hb hts (tw_i inlX12) hown hK hP hL_this hK_this (by decide) rfl 0 (by decide) (hts _ (tw_c tw_176)) (pq_hv rfl hR_w_1) dX12_family_114 ?_
                      refine lv_iconst (v := 5) hx hb dX12_family_117 (by decide) ?_
                      refine pl_i hx hb hK hP hL_w_1 hK_w_1 hN_w_1 (vp_in_iff.mpr (by decide)) dX12_family_118 ?_
                      refine lv_tov (ri w_1 5) (hG.2.2.1 w_1 hT_w_1 5 (by decide) (by decide)) ?_
                      refine lv_icmp_ge (tgt := 174) hx hb dX12_family_119 (by decide) (fun c_188214 => ?_) (fun c_188214 => ?_)
                      · have tc_188215 : (ri w_1 5).toInt ≤ (x_188165).toInt := Int32.le_iff_toInt_le.mp c_188214
                        refine lv_iload hx hb dX12_family_174 (lv_at hl 6 rfl) ?_
                        have K_188225 : ∀  (ri_188223 : Nat → Nat → Int32) (H : Heap) (locs : List Loc) (ls : Array Slot), GM [1403] tg σ I ri I ri_188223 rq → va_P D vwCl (pq_P t σ (I, J, ri_188223, rj, rq)) H → va_D A (pq_P t σ (I, J, ri_188223, rj, rq)) → va_S A s.heap H locs → lv_has ls 9 [(5, .int x_169469), (7, .int 1)] → W p l e ({ frames := 3, cells := 0, slots := 0, locals := 66 } : Room) s m (List.toArray ([.ref this, .int a0, .int a1, .int a2] : List Value)) below meth c H locs 0 0 Q (F0 m 187 ls []) := by
                          intro ri_188223 H locs ls hG hP hD hS hl
                          refine lv_iload hx hb dX12_family_187 (lv_at hl 1 rfl) ?_
                          refine lv_if_eq (tgt := 197) hx hb dX12_family_189 (by decide) (fun c_188226 => absurd c_188226 (by decide)) (fun c_188226 => ?_)
                          refine lv_iload hx hb dX12_family_192 (lv_at hl 0 rfl) ?_
                          refine lv_goto (tgt := 198) hx hb dX12_family_194 (by decide) ?_
                          subst hQ
                          exact W.iret (v := x_169469) hx hb hr (fun t1 ht hW => ⟨⟨x_169469, (σ, I, J, ri_188223, rj, rq), rfl, ⟨ri_188223, rfl, hG⟩, by rw [ht]; exact hP, va_K.moved hW.alike hK, hD⟩, hS.F ht⟩) hS.2.2 dX12_family_198
                        refine lv_if_eq (tgt := 187) hx hb dX12_family_176 (by decide) (fun c_188227 => absurd c_188227 (by decide)) (fun c_188227 => ?_)
                        refine lv_aload_n hx hb dX12_family_179 rfl (lv_at hl 0 rfl) ?_
                        refine lv_iload_n hx hb dX12_family_180 rfl (lv_at hl 1 rfl) ?_
                        refine lv_iload hx hb dX12_family_181 (lv_at hl 5 rfl) ?_
                        refine lv_iload_n hx hb dX12_family_183 rfl (lv_at hl 2 rfl) ?_
                        refine pk_v (va_runV (As := [.int a0, .int x_184448, .int a1]) (rest := []) ⟨hx, hb, hml, hown, hts⟩ (s_X12_sails l D t σ I J ri_188166 rj rq H.size tg hSH hG.1 this a0 x_184448 a1 hL_this hK_this (rg_w h_a0 (by decide)) (rg_w h_187641 (by decide))) (cwV 3 hts (tw_V tw_1263 tw_1264 tw_1265 tw_5 tw_1266) rfl rfl rfl cv_yX12_sails_3 ⟨Nat.le_of_ble_eq_true rfl, Nat.le_of_ble_eq_true rfl⟩) ⟨pq_blind, pq_recv hK hP hL_this hK_this (by decide) rfl, pq_pre hK hN hP hD⟩ rfl rfl hl.1 rfl (lv_room (Nat.le_of_ble_eq_true rfl)) dX12_family_184 ⟨Nat.le_of_ble_eq_true rfl, Nat.le_of_ble_eq_true rfl⟩) hD hS hA (fun σ1 μ1 H locs hw_188229 hP hD hS => ?_)
                        obtain ⟨ri_188230, hu_188231, hg_188232⟩ := hw_188229
                        obtain ⟨hu_188231a, hu_188231b⟩ := Prod.mk.inj hu_188231
                        rw [hu_188231a, hu_188231b] at hP hD
                        have hG := GM.tr hG hg_188232 (by decide)
                        exact K_188225 ri_188230 _ _ _ hG hP hD hS (lv_sub hl [4, 6] rfl)
                      · have tc_188234 : (x_188165).toInt < (ri w_1 5).toInt := Int32.lt_iff_toInt_lt.mp (nle c_188214)
                        have h_188235 : rg x_188165 0 39 := rg_lt1 (nle c_188214) h_188213 h_178043 (by decide)
                        have uh_188235 := h_188235.1
                        have vh_188235 := h_188235.2
                        have h_188236 : rg (ri w_1 5) 1 40 := rg_lt2 (nle c_188214) h_188213 h_178043 (by decide)
                        have uh_188236 := h_188236.1
                        have vh_188236 := h_188236.2
                        refine lv_aload_n hx hb dX12_family_122 rfl (lv_at hl 0 rfl) ?_
                        refine lv_iload hx hb dX12_family_123 (lv_at hl 7 rfl) ?_
                        refine lv_iload_n hx hb dX12_family_125 rfl (lv_at hl 1 rfl) ?_
                        refine lv_iload hx hb dX12_family_126 (lv_at hl 3 rfl) ?_
                        refine pk_i (va_runV (As := [.int x_188165, .int a0, .int x_2]) (rest := []) ⟨hx, hb, hml, hown, hts⟩ (s_X12_isOfKin l D t σ I J ri_188166 rj rq H.size tg hSH hG.1 this x_188165 a0 x_2 hL_this hK_this (rg_w h_188235 (by decide)) (rg_w h_a0 (by decide))) (cwV 3 hts (tw_V tw_1259 tw_1260 tw_1261 tw_5 tw_1262) rfl rfl rfl cv_yX12_isOfKin_3 ⟨Nat.le_of_ble_eq_true rfl, Nat.le_of_ble_eq_true rfl⟩) ⟨pq_blind, pq_recv hK hP hL_this hK_this (by decide) rfl, pq_pre hK hN hP hD⟩ rfl rfl hl.1 rfl (lv_room (Nat.le_of_ble_eq_true rfl)) dX12_family_128 ⟨Nat.le_of_ble_eq_true rfl, Nat.le_of_ble_eq_true rfl⟩) hD hS hA (fun x_188237 σ1 μ1 H locs hw_188238 hP hD hS => ?_)
                        obtain ⟨hu_188239, hr_188241⟩ := hw_188238
                        obtain ⟨hu_188239a, hu_188239b⟩ := Prod.mk.inj hu_188239
                        rw [hu_188239a, hu_188239b] at hP hD
                        have h_188242 : rg x_188237 0 1 := by rcases hr_188241 with ⟨q, -⟩ | ⟨q, -⟩ <;> rw [q] <;> exact ⟨by decide, by decide⟩
                        have uh_188242 := h_188242.1
                        have vh_188242 := h_188242.2
                        have K_188263 : ∀  (ri_188260 : Nat → Nat → Int32) (H : Heap) (locs : List Loc) (ls : Array Slot), GM [1403] tg σ I ri I ri_188260 rq → va_P D vwCl (pq_P t σ (I, J, ri_188260, rj, rq)) H → va_D A (pq_P t σ (I, J, ri_188260, rj, rq)) → va_S A s.heap H locs → lv_has ls 9 [(0, .ref this), (1, .int a0), (2, .int a1), (4, .int x_2), (5, .int x_169469), (6, .int x_184448), (7, .int 1), (8, .int x_188165)] → W p l e ({ frames := 3, cells := 0, slots := 0, locals := 66 } : Room) s m (List.toArray ([.ref this, .int a0, .int a1, .int a2] : List Value)) below meth c H locs 0 0 Q (F0 m 168 ls []) := by
                          intro ri_188260 H locs ls hG hP hD hS hl
                          obtain ⟨x_188264, ex_188264⟩ : ∃ y : Int32, y = x_188165 + Int32.ofInt 1 := ⟨_, rfl⟩
                          have h_188265 : rg x_188264 1 40 := rg_of_eq ex_188264 (rg_add h_188235 (rg_k (Int32.ofInt 1) 1 rfl) (by decide))
                          have uh_188265 := h_188265.1
                          have vh_188265 := h_188265.2
                          have tx_188264 : (x_188264).toInt = (x_188165).toInt + 1 := by rw [ex_188264]; exact i_add_rg (a2 := (x_188165).toInt) (b2 := 1) rfl rfl h_188235 (rg_k (Int32.ofInt 1) 1 rfl) (by decide)
                          refine lv_iinc (v := x_188264) (lv' := [(8, .int x_188264), (0, .ref this), (1, .int a0), (2, .int a1), (4, .int x_2), (5, .int x_169469), (6, .int x_184448), (7, .int 1)]) hx hb dX12_family_168 hl (k := 7) rfl ex_188264.symm (by decide) rfl (fun ls hl => ?_)
                          refine lv_goto (tgt := 111) hx hb dX12_family_171 (by decide) ?_
                          exact ih_188211 x_188264 ri_188260 _ _ _ (rg_w h_188265 (by decide)) (ms_up 1 hm_188208 ex_188264 rfl (by decide) h_188235 (by decide) (by decide)) hG hP hD hS (lv_sub hl [1, 2, 3, 4, 5, 6, 7, 0] rfl)
                        refine lv_if_ne (tgt := 137) hx hb dX12_family_131 (by decide) (fun c_188266 => ?_) (fun c_188266 => ?_)
                        · have tc_188267 : (x_188237).toInt ≠ 0 := fun q => c_188266 (Int32.toInt_inj.mp q)
                          have h_188268 : rg x_188237 1 1 := rg_ne c_188266 h_188242 0 rfl (by decide)
                          have uh_188268 := h_188268.1
                          have vh_188268 := h_188268.2
                          refine lv_aload_n hx hb dX12_family_137 rfl (lv_at hl 0 rfl) ?_
                          obtain ⟨w_188269, hR_w_188269, hL_w_188269, hK_w_188269, hN_w_188269, hT_w_188269⟩ := sh_a hSH 412 (ci := 12) (kd := 15) (len := 40) rfl (by decide) hL_this hK_this
                          refine pg_f (v := .ref w_188269) (C := RX12) (T := TX12) (N := 31) hx hb hts (tw_i inlX12) hown hK hP hL_this hK_this (by decide) rfl 28 (by decide) (hts _ (tw_c tw_189)) (pq_hv rfl hR_w_188269) dX12_family_138 ?_
                          refine lv_iload hx hb dX12_family_141 (lv_at hl 7 rfl) ?_
                          refine lv_iconst (v := 1) hx hb dX12_family_143 (by decide) ?_
                          refine pt_z hx hb hK hP hD hS hL_w_188269 hK_w_188269 hN_w_188269 (rg_in h_188235 (by decide)) (rg_w (rg_k (1 : Int32) 1 rfl) (by decide)) dX12_family_144 (fun r_188270 H locs er_188270 hP hD hS => ?_)
                          have hG := GM.wR hG hSH hT_w_188269 rfl er_188270 (rg_w (rg_k (1 : Int32) 1 rfl) (by decide)) (by decide)
                          refine lv_iload hx hb dX12_family_145 (lv_at hl 7 rfl) ?_
                          refine lv_iload_n hx hb dX12_family_147 rfl (lv_at hl 1 rfl) ?_
                          refine lv_icmp_ne (tgt := 154) hx hb dX12_family_148 (by decide) (fun c_188271 => ?_) (fun c_188271 => ?_)
                          · have tc_188272 : (x_188165).toInt ≠ (a0).toInt := fun q => c_188271 (Int32.toInt_inj.mp q)
                            refine lv_iload hx hb dX12_family_154 (lv_at hl 6 rfl) ?_
                            refine lv_if_eq (tgt := 168) hx hb dX12_family_156 (by decide) (fun c_188273 => absurd c_188273 (by decide)) (fun c_188273 => ?_)
                            refine lv_aload_n hx hb dX12_family_159 rfl (lv_at hl 0 rfl) ?_
                            refine lv_iload hx hb dX12_family_160 (lv_at hl 7 rfl) ?_
                            refine lv_iload hx hb dX12_family_162 (lv_at hl 5 rfl) ?_
                            refine lv_iload_n hx hb dX12_family_164 rfl (lv_at hl 2 rfl) ?_
                            refine pk_v (va_runV (As := [.int x_188165, .int x_184448, .int a1]) (rest := []) ⟨hx, hb, hml, hown, hts⟩ (s_X12_sails l D t σ I J r_188270 rj rq H.size tg hSH hG.1 this x_188165 x_184448 a1 hL_this hK_this (rg_w h_188235 (by decide)) (rg_w h_187641 (by decide))) (cwV 3 hts (tw_V tw_1263 tw_1264 tw_1265 tw_5 tw_1266) rfl rfl rfl cv_yX12_sails_3 ⟨Nat.le_of_ble_eq_true rfl, Nat.le_of_ble_eq_true rfl⟩) ⟨pq_blind, pq_recv hK hP hL_this hK_this (by decide) rfl, pq_pre hK hN hP hD⟩ rfl rfl hl.1 rfl (lv_room (Nat.le_of_ble_eq_true rfl)) dX12_family_165 ⟨Nat.le_of_ble_eq_true rfl, Nat.le_of_ble_eq_true rfl⟩) hD hS hA (fun σ1 μ1 H locs hw_188275 hP hD hS => ?_)
                            obtain ⟨ri_188276, hu_188277, hg_188278⟩ := hw_188275
                            obtain ⟨hu_188277a, hu_188277b⟩ := Prod.mk.inj hu_188277
                            rw [hu_188277a, hu_188277b] at hP hD
                            have hG := GM.tr hG hg_188278 (by decide)
                            exact K_188263 ri_188276 _ _ _ hG hP hD hS (lv_sub hl [0, 1, 2, 3, 4, 5, 6, 7] rfl)
                          · have tc_188280 : (x_188165).toInt = (a0).toInt := congrArg Int32.toInt c_188271
                            refine lv_goto (tgt := 168) hx hb dX12_family_151 (by decide) ?_
                            exact K_188263 r_188270 _ _ _ hG hP hD hS (lv_sub hl [0, 1, 2, 3, 4, 5, 6, 7] rfl)
                        · have tc_188281 : (x_188237).toInt = 0 := congrArg Int32.toInt c_188266
                          have h_188282 : rg x_188237 0 0 := rg_and h_188242 (rg_of_eq c_188266 (rg_k (0 : Int32) 0 rfl)) (by decide)
                          have uh_188282 := h_188282.1
                          have vh_188282 := h_188282.2
                          refine lv_goto (tgt := 168) hx hb dX12_family_134 (by decide) ?_
                          exact K_188263 ri_188166 _ _ _ hG hP hD hS (lv_sub hl [0, 1, 2, 3, 4, 5, 6, 7] rfl)
                  exact L_188210 _ (0 : Int32) ri _ _ _ (rg_w (rg_k (0 : Int32) 0 rfl) (by decide)) (Nat.lt_succ_self _) hG hP hD hS (lv_sub hl [2, 3, 4, 5, 6, 7, 1, 0] rfl)
                have K_188283 : ∀  (H : Heap) (locs : List Loc) (ls : Array Slot), GM [1403] tg σ I ri I ri rq → va_P D vwCl (pq_P t σ (I, J, ri, rj, rq)) H → va_D A (pq_P t σ (I, J, ri, rj, rq)) → va_S A s.heap H locs → lv_has ls 9 [(0, .ref this), (1, .int a0), (2, .int a1), (4, .int x_2), (5, .int x_169469), (6, .int x_184448)] → W p l e ({ frames := 3, cells := 0, slots := 0, locals := 66 } : Room) s m (List.toArray ([.ref this, .int a0, .int a1, .int a2] : List Value)) below meth c H locs 0 0 Q (F0 m 106 ls [.int 0]) := by
                  intro H locs ls hG hP hD hS hl
                  refine lv_istore (lv' := [(7, .int 0), (0, .ref this), (1, .int a0), (2, .int a1), (4, .int x_2), (5, .int x_169469), (6, .int x_184448)]) hx hb dX12_family_106 hl (by decide) rfl (fun ls hl => ?_)
                  refine lv_iconst (v := 0) hx hb dX12_family_108 (by decide) ?_
                  refine lv_istore (lv' := [(8, .int 0), (7, .int 0), (0, .ref this), (1, .int a0), (2, .int a1), (4, .int x_2), (5, .int x_169469), (6, .int x_184448)]) hx hb dX12_family_109 hl (by decide) rfl (fun ls hl => ?_)
                  have L_188683 : ∀ (n_188682 : Nat) (x_188651 : Int32) (ri_188652 : Nat → Nat → Int32) (H : Heap) (locs : List Loc) (ls : Array Slot), rg x_188651 0 40 → (40 - (x_188651).toInt).toNat < n_188682 → GM [1403] tg σ I ri I ri_188652 rq → va_P D vwCl (pq_P t σ (I, J, ri_188652, rj, rq)) H → va_D A (pq_P t σ (I, J, ri_188652, rj, rq)) → va_S A s.heap H locs → lv_has ls 9 [(0, .ref this), (1, .int a0), (2, .int a1), (4, .int x_2), (5, .int x_169469), (6, .int x_184448), (7, .int 0), (8, .int x_188651)] → W p l e ({ frames := 3, cells := 0, slots := 0, locals := 66 } : Room) s m (List.toArray ([.ref this, .int a0, .int a1, .int a2] : List Value)) below meth c H locs 0 0 Q (F0 m 111 ls []) := by
                    intro n_188682
                    induction n_188682 with
                    | zero => intro x_188651 ri_188652 H locs ls h_188686 hm_188681 hG hP hD hS hl; exact absurd hm_188681 (Nat.not_lt_zero _)
                    | succ n_188682 ih_188684 =>
                      intro x_188651 ri_188652 H locs ls h_188686 hm_188681 hG hP hD hS hl
                      have uh_188686 := h_188686.1
                      have vh_188686 := h_188686.2
                      refine lv_iload hx hb dX12_family_111 (lv_at hl 7 rfl) ?_
                      refine lv_aload_n hx hb dX12_family_113 rfl (lv_at hl 0 rfl) ?_
                      refine pg_f (v := .ref w_1) (C := RX12) (T := TX12) (N := 31) hx hb hts (tw_i inlX12) hown hK hP hL_this hK_this (by decide) rfl 0 (by decide) (hts _ (tw_c tw_176)) (pq_hv rfl hR_w_1) dX12_family_114 ?_
                      refine lv_iconst (v := 5) hx hb dX12_family_117 (by decide) ?_
                      refine pl_i hx hb hK hP hL_w_1 hK_w_1 hN_w_1 (vp_in_iff.mpr (by decide)) dX12_family_118 ?_
                      refine lv_tov (ri w_1 5) (hG.2.2.1 w_1 hT_w_1 5 (by decide) (by decide)) ?_
                      refine lv_icmp_ge (tgt := 174) hx hb dX12_family_119 (by decide) (fun c_188687 => ?_) (fun c_188687 => ?_)
                      · have tc_188688 : (ri w_1 5).toInt ≤ (x_188651).toInt := Int32.le_iff_toInt_le.mp c_188687
                        refine lv_iload hx hb dX12_family_174 (lv_at hl 6 rfl) ?_
                        have K_188691 : ∀  (H : Heap) (locs : List Loc) (ls : Array Slot), GM [1403] tg σ I ri I ri_188652 rq → va_P D vwCl (pq_P t σ (I, J, ri_188652, rj, rq)) H → va_D A (pq_P t σ (I, J, ri_188652, rj, rq)) → va_S A s.heap H locs → lv_has ls 9 [(5, .int x_169469), (7, .int 0)] → W p l e ({ frames := 3, cells := 0, slots := 0, locals := 66 } : Room) s m (List.toArray ([.ref this, .int a0, .int a1, .int a2] : List Value)) below meth c H locs 0 0 Q (F0 m 187 ls []) := by
                          intro H locs ls hG hP hD hS hl
                          refine lv_iload hx hb dX12_family_187 (lv_at hl 1 rfl) ?_
                          refine lv_if_eq (tgt := 197) hx hb dX12_family_189 (by decide) (fun c_188692 => ?_) (fun c_188692 => absurd c_188692 (by decide))
                          refine lv_iconst (v := 0) hx hb dX12_family_197 (by decide) ?_
                          subst hQ
                          exact W.iret (v := 0) hx hb hr (fun t1 ht hW => ⟨⟨0, (σ, I, J, ri_188652, rj, rq), rfl, ⟨ri_188652, rfl, hG⟩, by rw [ht]; exact hP, va_K.moved hW.alike hK, hD⟩, hS.F ht⟩) hS.2.2 dX12_family_198
                        refine lv_if_eq (tgt := 187) hx hb dX12_family_176 (by decide) (fun c_188693 => ?_) (fun c_188693 => absurd c_188693 (by decide))
                        exact K_188691 _ _ _ hG hP hD hS (lv_sub hl [4, 6] rfl)
                      · have tc_188694 : (x_188651).toInt < (ri w_1 5).toInt := Int32.lt_iff_toInt_lt.mp (nle c_188687)
                        have h_188695 : rg x_188651 0 39 := rg_lt1 (nle c_188687) h_188686 h_178043 (by decide)
                        have uh_188695 := h_188695.1
                        have vh_188695 := h_188695.2
                        have h_188696 : rg (ri w_1 5) 1 40 := rg_lt2 (nle c_188687) h_188686 h_178043 (by decide)
                        have uh_188696 := h_188696.1
                        have vh_188696 := h_188696.2
                        refine lv_aload_n hx hb dX12_family_122 rfl (lv_at hl 0 rfl) ?_
                        refine lv_iload hx hb dX12_family_123 (lv_at hl 7 rfl) ?_
                        refine lv_iload_n hx hb dX12_family_125 rfl (lv_at hl 1 rfl) ?_
                        refine lv_iload hx hb dX12_family_126 (lv_at hl 3 rfl) ?_
                        refine pk_i (va_runV (As := [.int x_188651, .int a0, .int x_2]) (rest := []) ⟨hx, hb, hml, hown, hts⟩ (s_X12_isOfKin l D t σ I J ri_188652 rj rq H.size tg hSH hG.1 this x_188651 a0 x_2 hL_this hK_this (rg_w h_188695 (by decide)) (rg_w h_a0 (by decide))) (cwV 3 hts (tw_V tw_1259 tw_1260 tw_1261 tw_5 tw_1262) rfl rfl rfl cv_yX12_isOfKin_3 ⟨Nat.le_of_ble_eq_true rfl, Nat.le_of_ble_eq_true rfl⟩) ⟨pq_blind, pq_recv hK hP hL_this hK_this (by decide) rfl, pq_pre hK hN hP hD⟩ rfl rfl hl.1 rfl (lv_room (Nat.le_of_ble_eq_true rfl)) dX12_family_128 ⟨Nat.le_of_ble_eq_true rfl, Nat.le_of_ble_eq_true rfl⟩) hD hS hA (fun x_188697 σ1 μ1 H locs hw_188698 hP hD hS => ?_)
                        obtain ⟨hu_188699, hr_188701⟩ := hw_188698
                        obtain ⟨hu_188699a, hu_188699b⟩ := Prod.mk.inj hu_188699
                        rw [hu_188699a, hu_188699b] at hP hD
                        have h_188702 : rg x_188697 0 1 := by rcases hr_188701 with ⟨q, -⟩ | ⟨q, -⟩ <;> rw [q] <;> exact ⟨by decide, by decide⟩
                        have uh_188702 := h_188702.1
                        have vh_188702 := h_188702.2
                        have K_188717 : ∀  (ri_188714 : Nat → Nat → Int32) (H : Heap) (locs : List Loc) (ls : Array Slot), GM [1403] tg σ I ri I ri_188714 rq → va_P D vwCl (pq_P t σ (I, J, ri_188714, rj, rq)) H → va_D A (pq_P t σ (I, J, ri_188714, rj, rq)) → va_S A s.heap H locs → lv_has ls 9 [(0, .ref this), (1, .int a0), (2, .int a1), (4, .int x_2), (5, .int x_169469), (6, .int x_184448), (7, .int 0), (8, .int x_188651)] → W p l e ({ frames := 3, cells := 0, slots := 0, locals := 66 } : Room) s m (List.toArray ([.ref this, .int a0, .int a1, .int a2] : List Value)) below meth c H locs 0 0 Q (F0 m 168 ls []) := by
                          intro ri_188714 H locs ls hG hP hD hS hl
                          obtain ⟨x_188718, ex_188718⟩ : ∃ y : Int32, y = x_188651 + Int32.ofInt 1 := ⟨_, rfl⟩
                          have h_188719 : rg x_188718 1 40 := rg_of_eq ex_188718 (rg_add h_188695 (rg_k (Int32.ofInt 1) 1 rfl) (by decide))
                          have uh_188719 := h_188719.1
                          have vh_188719 := h_188719.2
                          have tx_188718 : (x_188718).toInt = (x_188651).toInt + 1 := by rw [ex_188718]; exact i_add_rg (a2 := (x_188651).toInt) (b2 := 1) rfl rfl h_188695 (rg_k (Int32.ofInt 1) 1 rfl) (by decide)
                          refine lv_iinc (v := x_188718) (lv' := [(8, .int x_188718), (0, .ref this), (1, .int a0), (2, .int a1), (4, .int x_2), (5, .int x_169469), (6, .int x_184448), (7, .int 0)]) hx hb dX12_family_168 hl (k := 7) rfl ex_188718.symm (by decide) rfl (fun ls hl => ?_)
                          refine lv_goto (tgt := 111) hx hb dX12_family_171 (by decide) ?_
                          exact ih_188684 x_188718 ri_188714 _ _ _ (rg_w h_188719 (by decide)) (ms_up 1 hm_188681 ex_188718 rfl (by decide) h_188695 (by decide) (by decide)) hG hP hD hS (lv_sub hl [1, 2, 3, 4, 5, 6, 7, 0] rfl)
                        refine lv_if_ne (tgt := 137) hx hb dX12_family_131 (by decide) (fun c_188720 => ?_) (fun c_188720 => ?_)
                        · have tc_188721 : (x_188697).toInt ≠ 0 := fun q => c_188720 (Int32.toInt_inj.mp q)
                          have h_188722 : rg x_188697 1 1 := rg_ne c_188720 h_188702 0 rfl (by decide)
                          have uh_188722 := h_188722.1
                          have vh_188722 := h_188722.2
                          refine lv_aload_n hx hb dX12_family_137 rfl (lv_at hl 0 rfl) ?_
                          obtain ⟨w_188723, hR_w_188723, hL_w_188723, hK_w_188723, hN_w_188723, hT_w_188723⟩ := sh_a hSH 412 (ci := 12) (kd := 15) (len := 40) rfl (by decide) hL_this hK_this
                          refine pg_f (v := .ref w_188723) (C := RX12) (T := TX12) (N := 31) hx hb hts (tw_i inlX12) hown hK hP hL_this hK_this (by decide) rfl 28 (by decide) (hts _ (tw_c tw_189)) (pq_hv rfl hR_w_188723) dX12_family_138 ?_
                          refine lv_iload hx hb dX12_family_141 (lv_at hl 7 rfl) ?_
                          refine lv_iconst (v := 1) hx hb dX12_family_143 (by decide) ?_
                          refine pt_z hx hb hK hP hD hS hL_w_188723 hK_w_188723 hN_w_188723 (rg_in h_188695 (by decide)) (rg_w (rg_k (1 : Int32) 1 rfl) (by decide)) dX12_family_144 (fun r_188724 H locs er_188724 hP hD hS => ?_)
                          have hG := GM.wR hG hSH hT_w_188723 rfl er_188724 (rg_w (rg_k (1 : Int32) 1 rfl) (by decide)) (by decide)
                          refine lv_iload hx hb dX12_family_145 (lv_at hl 7 rfl) ?_
                          refine lv_iload_n hx hb dX12_family_147 rfl (lv_at hl 1 rfl) ?_
                          refine lv_icmp_ne (tgt := 154) hx hb dX12_family_148 (by decide) (fun c_188725 => ?_) (fun c_188725 => ?_)
                          · have tc_188726 : (x_188651).toInt ≠ (a0).toInt := fun q => c_188725 (Int32.toInt_inj.mp q)
                            refine lv_iload hx hb dX12_family_154 (lv_at hl 6 rfl) ?_
                            refine lv_if_eq (tgt := 168) hx hb dX12_family_156 (by decide) (fun c_188727 => ?_) (fun c_188727 => absurd c_188727 (by decide))
                            exact K_188717 r_188724 _ _ _ hG hP hD hS (lv_sub hl [0, 1, 2, 3, 4, 5, 6, 7] rfl)
                          · have tc_188728 : (x_188651).toInt = (a0).toInt := congrArg Int32.toInt c_188725
                            refine lv_goto (tgt := 168) hx hb dX12_family_151 (by decide) ?_
                            exact K_188717 r_188724 _ _ _ hG hP hD hS (lv_sub hl [0, 1, 2, 3, 4, 5, 6, 7] rfl)
                        · have tc_188729 : (x_188697).toInt = 0 := congrArg Int32.toInt c_188720
                          have h_188730 : rg x_188697 0 0 := rg_and h_188702 (rg_of_eq c_188720 (rg_k (0 : Int32) 0 rfl)) (by decide)
                          have uh_188730 := h_188730.1
                          have vh_188730 := h_188730.2
                          refine lv_goto (tgt := 168) hx hb dX12_family_134 (by decide) ?_
                          exact K_188717 ri_188652 _ _ _ hG hP hD hS (lv_sub hl [0, 1, 2, 3, 4, 5, 6, 7] rfl)
                  exact L_188683 _ (0 : Int32) ri _ _ _ (rg_w (rg_k (0 : Int32) 0 rfl) (by decide)) (Nat.lt_succ_self _) hG hP hD hS (lv_sub hl [2, 3, 4, 5, 6, 7, 1, 0] rfl)
                have K_188731 : ∀  (H : Heap) (locs : List Loc) (ls : Array Slot), GM [1403] tg σ I ri I ri rq → va_P D vwCl (pq_P t σ (I, J, ri, rj, rq)) H → va_D A (pq_P t σ (I, J, ri, rj, rq)) → va_S A s.heap H locs → lv_has ls 9 [(0, .ref this), (1, .int a0), (2, .int a1), (4, .int x_2), (5, .int x_169469), (6, .int x_184448)] → W p l e ({ frames := 3, cells := 0, slots := 0, locals := 66 } : Room) s m (List.toArray ([.ref this, .int a0, .int a1, .int a2] : List Value)) below meth c H locs 0 0 Q (F0 m 105 ls []) := by
                  intro H locs ls hG hP hD hS hl
                  refine lv_iconst (v := 0) hx hb dX12_family_105 (by decide) ?_
                  exact K_188283 _ _ _ hG hP hD hS (lv_sub hl [0, 1, 2, 3, 4, 5] rfl)
                refine lv_icmp_gt (tgt := 105) hx hb dX12_family_87 (by decide) (fun c_188732 => ?_) (fun c_188732 => ?_)
                · have tc_188733 : (a2).toInt < (x_169469).toInt := Int32.lt_iff_toInt_lt.mp c_188732
                  have h_188734 : rg a2 (-2147483648) 2147483646 := rg_lt1 c_188732 (rg_full _) (rg_full _) (by decide)
                  have uh_188734 := h_188734.1
                  have vh_188734 := h_188734.2
                  have h_188735 : rg x_169469 (-2147483647) 2147483647 := rg_lt2 c_188732 (rg_full _) (rg_full _) (by decide)
                  have uh_188735 := h_188735.1
                  have vh_188735 := h_188735.2
                  exact K_188731 _ _ _ hG hP hD hS (lv_sub hl [0, 1, 2, 4, 5, 6] rfl)
                · have tc_188736 : (x_169469).toInt ≤ (a2).toInt := Int32.le_iff_toInt_le.mp (nlt c_188732)
                  refine lv_iload hx hb dX12_family_90 (lv_at hl 6 rfl) ?_
                  refine lv_aload_n hx hb dX12_family_92 rfl (lv_at hl 0 rfl) ?_
                  refine pg_f (v := .ref w_1) (C := RX12) (T := TX12) (N := 31) hx hb hts (tw_i inlX12) hown hK hP hL_this hK_this (by decide) rfl 0 (by decide) (hts _ (tw_c tw_176)) (pq_hv rfl hR_w_1) dX12_family_93 ?_
                  refine lv_iconst (v := 4) hx hb dX12_family_96 (by decide) ?_
                  refine pl_i hx hb hK hP hL_w_1 hK_w_1 hN_w_1 (vp_in_iff.mpr (by decide)) dX12_family_97 ?_
                  refine lv_tov (ri w_1 4) rfl ?_
                  refine lv_icmp_ge (tgt := 105) hx hb dX12_family_98 (by decide) (fun c_188737 => ?_) (fun c_188737 => ?_)
                  · have tc_188738 : (ri w_1 4).toInt ≤ (x_184448).toInt := Int32.le_iff_toInt_le.mp c_188737
                    exact K_188731 _ _ _ hG hP hD hS (lv_sub hl [0, 1, 2, 4, 5, 6] rfl)
                  · have tc_188739 : (x_184448).toInt < (ri w_1 4).toInt := Int32.lt_iff_toInt_lt.mp (nle c_188737)
                    have h_188740 : rg x_184448 0 4 := rg_lt1 (nle c_188737) h_185521 h_185522 (by decide)
                    have uh_188740 := h_188740.1
                    have vh_188740 := h_188740.2
                    have h_188741 : rg (ri w_1 4) 1 5 := rg_lt2 (nle c_188737) h_185521 h_185522 (by decide)
                    have uh_188741 := h_188741.1
                    have vh_188741 := h_188741.2
                    refine lv_iconst (v := 1) hx hb dX12_family_101 (by decide) ?_
                    refine lv_goto (tgt := 106) hx hb dX12_family_102 (by decide) ?_
                    exact K_187637 _ _ _ (rg_w h_188741 (by decide)) (rg_w h_188740 (by decide)) hG hP hD hS (lv_sub hl [0, 1, 2, 4, 5, 6] rfl)
              refine lv_icmp_ge (tgt := 84) hx hb dX12_family_64 (by decide) (fun c_188742 => ?_) (fun c_188742 => ?_)
              · have tc_188743 : (ri w_1 4).toInt ≤ (x_184448).toInt := Int32.le_iff_toInt_le.mp c_188742
                exact K_186588 _ _ _ hG hP hD hS (lv_sub hl [0, 1, 2, 3, 4, 5, 6] rfl)
              · have tc_188744 : (x_184448).toInt < (ri w_1 4).toInt := Int32.lt_iff_toInt_lt.mp (nle c_188742)
                have h_188745 : rg x_184448 0 4 := rg_lt1 (nle c_188742) h_185521 h_185522 (by decide)
                have uh_188745 := h_188745.1
                have vh_188745 := h_188745.2
                have h_188746 : rg (ri w_1 4) 1 5 := rg_lt2 (nle c_188742) h_185521 h_185522 (by decide)
                have uh_188746 := h_188746.1
                have vh_188746 := h_188746.2
                refine lv_aload_n hx hb dX12_family_67 rfl (lv_at hl 0 rfl) ?_
                refine lv_iload hx hb dX12_family_68 (lv_at hl 6 rfl) ?_
                refine pk_i (va_runV (As := [.int x_184448]) (rest := []) ⟨hx, hb, hml, hown, hts⟩ (s_X12_freeIn l D t σ I J ri rj rq H.size tg hSH hG.1 this x_184448 hL_this hK_this (rg_w h_188745 (by decide))) (cwV 1 hts (tw_V tw_441 tw_442 tw_443 tw_5 tw_444) rfl rfl rfl cv_yX12_freeIn_1 ⟨Nat.le_of_ble_eq_true rfl, Nat.le_of_ble_eq_true rfl⟩) ⟨pq_blind, pq_recv hK hP hL_this hK_this (by decide) rfl, pq_pre hK hN hP hD⟩ rfl rfl hl.1 rfl (lv_room (Nat.le_of_ble_eq_true rfl)) dX12_family_70 ⟨Nat.le_of_ble_eq_true rfl, Nat.le_of_ble_eq_true rfl⟩) hD hS hA (fun x_188747 σ1 μ1 H locs hw_188748 hP hD hS => ?_)
                have hu_188749 := hw_188748
                obtain ⟨hu_188749a, hu_188749b⟩ := Prod.mk.inj hu_188749
                rw [hu_188749a, hu_188749b] at hP hD
                refine lv_iload hx hb dX12_family_73 (lv_at hl 5 rfl) ?_
                refine lv_icmp_ge (tgt := 84) hx hb dX12_family_75 (by decide) (fun c_188752 => ?_) (fun c_188752 => ?_)
                · have tc_188753 : (x_169469).toInt ≤ (x_188747).toInt := Int32.le_iff_toInt_le.mp c_188752
                  exact K_186588 _ _ _ hG hP hD hS (lv_sub hl [0, 1, 2, 3, 4, 5, 6] rfl)
                · have tc_188754 : (x_188747).toInt < (x_169469).toInt := Int32.lt_iff_toInt_lt.mp (nle c_188752)
                  have h_188755 : rg x_188747 (-2147483648) 2147483646 := rg_lt1 (nle c_188752) (rg_full _) (rg_full _) (by decide)
                  have uh_188755 := h_188755.1
                  have vh_188755 := h_188755.2
                  have h_188756 : rg x_169469 (-2147483647) 2147483647 := rg_lt2 (nle c_188752) (rg_full _) (rg_full _) (by decide)
                  have uh_188756 := h_188756.1
                  have vh_188756 := h_188756.2
                  obtain ⟨x_188757, ex_188757⟩ : ∃ y : Int32, y = x_184448 + Int32.ofInt 1 := ⟨_, rfl⟩
                  have h_188758 : rg x_188757 1 5 := rg_of_eq ex_188757 (rg_add h_188745 (rg_k (Int32.ofInt 1) 1 rfl) (by decide))
                  have uh_188758 := h_188758.1
                  have vh_188758 := h_188758.2
                  have tx_188757 : (x_188757).toInt = (x_184448).toInt + 1 := by rw [ex_188757]; exact i_add_rg (a2 := (x_184448).toInt) (b2 := 1) rfl rfl h_188745 (rg_k (Int32.ofInt 1) 1 rfl) (by decide)
                  refine lv_iinc (v := x_188757) (lv' := [(6, .int x_188757), (0, .ref this), (1, .int a0), (2, .int a1), (3, .int a2), (4, .int x_2), (5, .int x_169469)]) hx hb dX12_family_78 hl (k := 6) rfl ex_188757.symm (by decide) rfl (fun ls hl => ?_)
                  refine lv_goto (tgt := 56) hx hb dX12_family_81 (by decide) ?_
                  exact ih_185519 x_188757 _ _ _ (rg_w h_188758 (by decide)) (ms_up 1 hm_185516 ex_188757 rfl (by decide) h_188745 (by decide) (by decide)) hG hP hD hS (lv_sub hl [1, 2, 3, 4, 5, 6, 0] rfl)
          exact L_185518 _ (0 : Int32) _ _ _ (rg_w (rg_k (0 : Int32) 0 rfl) (by decide)) (Nat.lt_succ_self _) hG hP hD hS (lv_sub hl [1, 2, 3, 4, 5, 6, 0] rfl)
        · have tc_188759 : (x_169470).toInt < (ri w_1 5).toInt := Int32.lt_iff_toInt_lt.mp (nle c_178044)
          have h_188760 : rg x_169470 0 39 := rg_lt1 (nle c_178044) h_178042 h_178043 (by decide)
          have uh_188760 := h_188760.1
          have vh_188760 := h_188760.2
          have h_188761 : rg (ri w_1 5) 1 40 := rg_lt2 (nle c_178044) h_178042 h_178043 (by decide)
          have uh_188761 := h_188761.1
          have vh_188761 := h_188761.2
          refine lv_iload hx hb dX12_family_25 (lv_at hl 5 rfl) ?_
          refine lv_aload_n hx hb dX12_family_27 rfl (lv_at hl 0 rfl) ?_
          refine lv_iload hx hb dX12_family_28 (lv_at hl 6 rfl) ?_
          refine lv_iload_n hx hb dX12_family_30 rfl (lv_at hl 1 rfl) ?_
          refine lv_iload hx hb dX12_family_31 (lv_at hl 4 rfl) ?_
          refine pk_i (va_runV (As := [.int x_169470, .int a0, .int x_2]) (rest := [.int x_169469]) ⟨hx, hb, hml, hown, hts⟩ (s_X12_isOfKin l D t σ I J ri rj rq H.size tg hSH hG.1 this x_169470 a0 x_2 hL_this hK_this (rg_w h_188760 (by decide)) (rg_w h_a0 (by decide))) (cwV 3 hts (tw_V tw_1259 tw_1260 tw_1261 tw_5 tw_1262) rfl rfl rfl cv_yX12_isOfKin_3 ⟨Nat.le_of_ble_eq_true rfl, Nat.le_of_ble_eq_true rfl⟩) ⟨pq_blind, pq_recv hK hP hL_this hK_this (by decide) rfl, pq_pre hK hN hP hD⟩ rfl rfl hl.1 rfl (lv_room (Nat.le_of_ble_eq_true rfl)) dX12_family_33 ⟨Nat.le_of_ble_eq_true rfl, Nat.le_of_ble_eq_true rfl⟩) hD hS hA (fun x_188762 σ1 μ1 H locs hw_188763 hP hD hS => ?_)
          obtain ⟨hu_188764, hr_188766⟩ := hw_188763
          obtain ⟨hu_188764a, hu_188764b⟩ := Prod.mk.inj hu_188764
          rw [hu_188764a, hu_188764b] at hP hD
          have h_188767 : rg x_188762 0 1 := by rcases hr_188766 with ⟨q, -⟩ | ⟨q, -⟩ <;> rw [q] <;> exact ⟨by decide, by decide⟩
          have uh_188767 := h_188767.1
          have vh_188767 := h_188767.2
          have K_188782 : ∀  (H : Heap) (locs : List Loc) (ls : Array Slot), rg (x_188762) 0 0 → GM [1403] tg σ I ri I ri rq → va_P D vwCl (pq_P t σ (I, J, ri, rj, rq)) H → va_D A (pq_P t σ (I, J, ri, rj, rq)) → va_S A s.heap H locs → lv_has ls 9 [(0, .ref this), (1, .int a0), (2, .int a1), (3, .int a2), (4, .int x_2), (6, .int x_169470)] → W p l e ({ frames := 3, cells := 0, slots := 0, locals := 66 } : Room) s m (List.toArray ([.ref this, .int a0, .int a1, .int a2] : List Value)) below meth c H locs 0 0 Q (F0 m 44 ls [.int 0, .int x_169469]) := by
            intro H locs ls h_188784 hG hP hD hS hl
            have uh_188784 := h_188784.1
            have vh_188784 := h_188784.2
            refine lv_iadd hx hb dX12_family_44 ?_
            refine lv_topi (fun x_188785 ex_188785 => ?_)
            have h_188786 : rg x_188785 (-2147483648) 2147483647 := rg_of_eq ex_188785 (rg_add (rg_full _) (rg_k (0 : Int32) 0 rfl) (by decide))
            have uh_188786 := h_188786.1
            have vh_188786 := h_188786.2
            have tx_188785 : (x_188785).toInt = (x_169469).toInt + 0 := by rw [ex_188785]; exact i_add_rg (a2 := (x_169469).toInt) (b2 := 0) rfl rfl (rg_full _) (rg_k (0 : Int32) 0 rfl) (by decide)
            refine lv_istore (lv' := [(5, .int x_188785), (0, .ref this), (1, .int a0), (2, .int a1), (3, .int a2), (4, .int x_2), (6, .int x_169470)]) hx hb dX12_family_45 hl (by decide) rfl (fun ls hl => ?_)
            obtain ⟨x_188787, ex_188787⟩ : ∃ y : Int32, y = x_169470 + Int32.ofInt 1 := ⟨_, rfl⟩
            have h_188788 : rg x_188787 1 40 := rg_of_eq ex_188787 (rg_add h_188760 (rg_k (Int32.ofInt 1) 1 rfl) (by decide))
            have uh_188788 := h_188788.1
            have vh_188788 := h_188788.2
            have tx_188787 : (x_188787).toInt = (x_169470).toInt + 1 := by rw [ex_188787]; exact i_add_rg (a2 := (x_169470).toInt) (b2 := 1) rfl rfl h_188760 (rg_k (Int32.ofInt 1) 1 rfl) (by decide)
            refine lv_iinc (v := x_188787) (lv' := [(6, .int x_188787), (5, .int x_188785), (0, .ref this), (1, .int a0), (2, .int a1), (3, .int a2), (4, .int x_2)]) hx hb dX12_family_47 hl (k := 6) rfl ex_188787.symm (by decide) rfl (fun ls hl => ?_)
            refine lv_goto (tgt := 14) hx hb dX12_family_50 (by decide) ?_
            exact ih_178040 x_188785 x_188787 _ _ _ (rg_w h_188788 (by decide)) (ms_up 1 hm_178037 ex_188787 rfl (by decide) h_188760 (by decide) (by decide)) hG hP hD hS (lv_sub hl [2, 3, 4, 5, 6, 1, 0] rfl)
          have K_188789 : ∀  (H : Heap) (locs : List Loc) (ls : Array Slot), rg (x_188762) 1 1 → GM [1403] tg σ I ri I ri rq → va_P D vwCl (pq_P t σ (I, J, ri, rj, rq)) H → va_D A (pq_P t σ (I, J, ri, rj, rq)) → va_S A s.heap H locs → lv_has ls 9 [(0, .ref this), (1, .int a0), (2, .int a1), (3, .int a2), (4, .int x_2), (6, .int x_169470)] → W p l e ({ frames := 3, cells := 0, slots := 0, locals := 66 } : Room) s m (List.toArray ([.ref this, .int a0, .int a1, .int a2] : List Value)) below meth c H locs 0 0 Q (F0 m 44 ls [.int 1, .int x_169469]) := by
            intro H locs ls h_188791 hG hP hD hS hl
            have uh_188791 := h_188791.1
            have vh_188791 := h_188791.2
            refine lv_iadd hx hb dX12_family_44 ?_
            refine lv_topi (fun x_188792 ex_188792 => ?_)
            refine lv_istore (lv' := [(5, .int x_188792), (0, .ref this), (1, .int a0), (2, .int a1), (3, .int a2), (4, .int x_2), (6, .int x_169470)]) hx hb dX12_family_45 hl (by decide) rfl (fun ls hl => ?_)
            obtain ⟨x_188793, ex_188793⟩ : ∃ y : Int32, y = x_169470 + Int32.ofInt 1 := ⟨_, rfl⟩
            have h_188794 : rg x_188793 1 40 := rg_of_eq ex_188793 (rg_add h_188760 (rg_k (Int32.ofInt 1) 1 rfl) (by decide))
            have uh_188794 := h_188794.1
            have vh_188794 := h_188794.2
            have tx_188793 : (x_188793).toInt = (x_169470).toInt + 1 := by rw [ex_188793]; exact i_add_rg (a2 := (x_169470).toInt) (b2 := 1) rfl rfl h_188760 (rg_k (Int32.ofInt 1) 1 rfl) (by decide)
            refine lv_iinc (v := x_188793) (lv' := [(6, .int x_188793), (5, .int x_188792), (0, .ref this), (1, .int a0), (2, .int a1), (3, .int a2), (4, .int x_2)]) hx hb dX12_family_47 hl (k := 6) rfl ex_188793.symm (by decide) rfl (fun ls hl => ?_)
            refine lv_goto (tgt := 14) hx hb dX12_family_50 (by decide) ?_
            exact ih_178040 x_188792 x_188793 _ _ _ (rg_w h_188794 (by decide)) (ms_up 1 hm_178037 ex_188793 rfl (by decide) h_188760 (by decide) (by decide)) hG hP hD hS (lv_sub hl [2, 3, 4, 5, 6, 1, 0] rfl)
          refine lv_if_eq (tgt := 43) hx hb dX12_family_36 (by decide) (fun c_188795 => ?_) (fun c_188795 => ?_)
          · have tc_188796 : (x_188762).toInt = 0 := congrArg Int32.toInt c_188795
            have h_188797 : rg x_188762 0 0 := rg_and h_188767 (rg_of_eq c_188795 (rg_k (0 : Int32) 0 rfl)) (by decide)
            have uh_188797 := h_188797.1
            have vh_188797 := h_188797.2
            refine lv_iconst (v := 0) hx hb dX12_family_43 (by decide) ?_
            exact K_188782 _ _ _ (rg_w h_188797 (by decide)) hG hP hD hS (lv_sub hl [0, 1, 2, 3, 4, 6] rfl)
          · have tc_188798 : (x_188762).toInt ≠ 0 := fun q => c_188795 (Int32.toInt_inj.mp q)
            have h_188799 : rg x_188762 1 1 := rg_ne c_188795 h_188767 0 rfl (by decide)
            have uh_188799 := h_188799.1
            have vh_188799 := h_188799.2
            refine lv_iconst (v := 1) hx hb dX12_family_39 (by decide) ?_
            refine lv_goto (tgt := 44) hx hb dX12_family_40 (by decide) ?_
            exact K_188789 _ _ _ (rg_w h_188799 (by decide)) hG hP hD hS (lv_sub hl [0, 1, 2, 3, 4, 6] rfl)
    exact L_178039 _ (0 : Int32) (0 : Int32) _ _ _ (rg_w (rg_k (0 : Int32) 0 rfl) (by decide)) (Nat.lt_succ_self _) hG hP hD hS (lv_sub hl [3, 4, 5, 6, 2, 1, 0] rfl)
  exact go _ _ _ hP hD hS hl

set_option maxHeartbeats 4000000 in
set_option maxRecDepth 100000 in
theorem s_X12_boatsGo (l : Launch) (D : va_G) (t : pq_T) (σ : pq_S) (I : Nat → Nat → Int32) (J : Nat → Nat → Int64) (ri : Nat → Nat → Int32) (rj : Nat → Nat → Int64) (rq : Nat → Nat → Option Nat) (sz : Nat) (tg : Nat → Nat) (hSH : SH σ tg) (hG0 : GT tg I ri) (this : Nat) (a0 : Int32) (hL_this : this ∈ σ.1) (hK_this : σ.2.1 this = 12) (h_a0 : rg a0 0 599) (this_a : Nat) (hR_this_a : σ.2.2.1 384 this = some this_a) (hL_this_a : this_a ∈ σ.1) (hK_this_a : σ.2.1 this_a = 13) (hN_this_a : σ.2.2.2 this_a = 12720) (hT_this_a : tg this_a = 384) (this_row : Nat) (hR_this_row : σ.2.2.1 411 this = some this_row) (hL_this_row : this_row ∈ σ.1) (hK_this_row : σ.2.1 this_row = 13) (hN_this_row : σ.2.2.2 this_row = 40) (hT_this_row : tg this_row = 411) (this_looked : Nat) (hR_this_looked : σ.2.2.1 412 this = some this_looked) (hL_this_looked : this_looked ∈ σ.1) (hK_this_looked : σ.2.1 this_looked = 15) (hN_this_looked : σ.2.2.2 this_looked = 40) (hT_this_looked : tg this_looked = 412) : MetV l yX12_boatsGo (wa yX12_boatsGo cX12_boatsGo 6 none) ({ frames := 5, cells := 0, slots := 0, locals := 125 }) [.ref this, .int a0] D t σ (I, J, ri, rj, rq) sz 0 0 (fun (u : pq_S × pq_M) => ∃ I' : Nat → Nat → Int32, ∃ ri' : Nat → Nat → Int32, ∃ rj' : Nat → Nat → Int64, u = (σ, I', J, ri', rj', rq) ∧ GM [1403] tg σ I ri I' ri' rq) := by
  refine Met.ofW (cc := cX12_boatsGo) (maxL := 6) (ret := none) (by decide) rfl ?_
  intro p e s m args below meth c s₁ B hml hv
  obtain ⟨rfl, hsz, hP, hK, hD0, hN⟩ := hv
  have hx := B.exec
  have hb := B.bytes
  have hr := B.returns
  have hts := atoms_spec (ws := (wa yX12_boatsGo cX12_boatsGo 6 none)) B.pre
  have hown : s.vm.findClass RX12 = some m.cls := findClass_of_methodNamed B.named
  have hlocks := B.notSynchronized
  subst hsz
  have hD : va_D (pq_B t σ (I, J, ri, rj, rq) s.heap.size) (pq_P t σ (I, J, ri, rj, rq)) := hD0.self
  generalize hAe : pq_B t σ (I, J, ri, rj, rq) s.heap.size = A at hD ⊢
  have hA : ∀ q : Nat, s.heap.size ≤ q → A q := fun q h => by rw [← hAe]; exact Or.inr h
  have hS : va_S A s.heap s.heap [] := va_S.rf
  have hG : GM [1403] tg σ I ri I ri rq := ⟨hG0, fun _ _ _ => rfl, fun _ _ _ _ _ => rfl, fun _ _ _ _ _ _ => rfl⟩
  have hl := lv_entry ([.ref this, .int a0]) (n := 6) (Nat.le_of_ble_eq_true rfl)
  rw [lg_entry_eq]
  generalize (lg_sl ([.ref this, .int a0]) ++ List.replicate (6 - (lg_sl ([.ref this, .int a0])).length) Slot.unset).toArray = ls at hl ⊢
  have hl : lv_has ls 6 [(0, .ref this), (1, .int a0)] := hl
  refine q_gen (fun Q hQ => ?_)
  have go : ∀ (H : Heap) (locs : List Loc) (ls : Array Slot), va_P D vwCl (pq_P t σ (I, J, ri, rj, rq)) H → va_D A (pq_P t σ (I, J, ri, rj, rq)) → va_S A s.heap H locs → lv_has ls 6 [(0, .ref this), (1, .int a0)] → W p l e ({ frames := 5, cells := 0, slots := 0, locals := 125 } : Room) s m (List.toArray ([.ref this, .int a0] : List Value)) below meth c H locs 0 0 Q (F0 m 0 ls []) := by
    intro H locs ls hP hD hS hl
    refine lv_aload_n hx hb dX12_boatsGo_0 rfl (lv_at hl 0 rfl) ?_
    refine lv_iconst (v := 5) hx hb dX12_boatsGo_1 (by decide) ?_
    refine lv_iload_n hx hb dX12_boatsGo_2 rfl (lv_at hl 1 rfl) ?_
    refine pk_i (va_runV (As := [.int 5, .int a0]) (rest := []) ⟨hx, hb, hml, hown, hts⟩ (s_X12_keysFor l D t σ I J ri rj rq H.size tg hSH hG.1 this (5 : Int32) a0 hL_this hK_this this_a hR_this_a hL_this_a hK_this_a hN_this_a hT_this_a) (cwV 2 hts (tw_V tw_503 tw_504 tw_505 tw_5 tw_506) rfl rfl rfl cv_yX12_keysFor_2 ⟨Nat.le_of_ble_eq_true rfl, Nat.le_of_ble_eq_true rfl⟩) ⟨pq_blind, pq_recv hK hP hL_this hK_this (by decide) rfl, pq_pre hK hN hP hD⟩ rfl rfl hl.1 rfl (lv_room (Nat.le_of_ble_eq_true rfl)) dX12_boatsGo_3 ⟨Nat.le_of_ble_eq_true rfl, Nat.le_of_ble_eq_true rfl⟩) hD hS hA (fun x_1 σ1 μ1 H locs hw_2 hP hD hS => ?_)
    obtain ⟨I_3, hu_4, hg_5, hr_6⟩ := hw_2
    obtain ⟨hu_4a, hu_4b⟩ := Prod.mk.inj hu_4
    rw [hu_4a, hu_4b] at hP hD
    have hG := GM.tr hG hg_5 (by decide)
    have h_7 : rg x_1 0 1 := by rcases hr_6 with ⟨q, -⟩ | ⟨q, -⟩ <;> rw [q] <;> exact ⟨by decide, by decide⟩
    have uh_7 := h_7.1
    have vh_7 := h_7.2
    refine lv_istore_n (lv' := [(2, .int x_1), (0, .ref this), (1, .int a0)]) hx hb dX12_boatsGo_6 rfl hl (by decide) rfl (fun ls hl => ?_)
    refine lv_iconst (v := 0) hx hb dX12_boatsGo_7 (by decide) ?_
    refine lv_istore_n (lv' := [(3, .int 0), (2, .int x_1), (0, .ref this), (1, .int a0)]) hx hb dX12_boatsGo_8 rfl hl (by decide) rfl (fun ls hl => ?_)
    refine lv_iconst (v := 0) hx hb dX12_boatsGo_9 (by decide) ?_
    refine lv_istore (lv' := [(4, .int 0), (3, .int 0), (2, .int x_1), (0, .ref this), (1, .int a0)]) hx hb dX12_boatsGo_10 hl (by decide) rfl (fun ls hl => ?_)
    have L_6387 : ∀ (n_6386 : Nat) (x_5716 : Int32) (x_5717 : Int32) (ri_5718 : Nat → Nat → Int32) (rj_5719 : Nat → Nat → Int64) (H : Heap) (locs : List Loc) (ls : Array Slot), rg x_5716 0 40 → rg x_5717 0 40 → (0 ≤ (x_5716).toInt ∧ (x_5716).toInt ≤ (x_5717).toInt) → (rwP this_a this_row ri_5718 (x_5716).toInt) → (40 - (x_5717).toInt).toNat < n_6386 → GM [1403] tg σ I ri I_3 ri_5718 rq → va_P D vwCl (pq_P t σ (I_3, J, ri_5718, rj_5719, rq)) H → va_D A (pq_P t σ (I_3, J, ri_5718, rj_5719, rq)) → va_S A s.heap H locs → lv_has ls 6 [(0, .ref this), (1, .int a0), (2, .int x_1), (3, .int x_5716), (4, .int x_5717)] → W p l e ({ frames := 5, cells := 0, slots := 0, locals := 125 } : Room) s m (List.toArray ([.ref this, .int a0] : List Value)) below meth c H locs 0 0 Q (F0 m 12 ls []) := by
      intro n_6386
      induction n_6386 with
      | zero => intro x_5716 x_5717 ri_5718 rj_5719 H locs ls h_6393 h_6394 hrel_6395 hrel_6396 hm_6385 hG hP hD hS hl; exact absurd hm_6385 (Nat.not_lt_zero _)
      | succ n_6386 ih_6388 =>
        intro x_5716 x_5717 ri_5718 rj_5719 H locs ls h_6393 h_6394 hrel_6395 hrel_6396 hm_6385 hG hP hD hS hl
        have uh_6393 := h_6393.1
        have vh_6393 := h_6393.2
        have uh_6394 := h_6394.1
        have vh_6394 := h_6394.2
        refine lv_iload hx hb dX12_boatsGo_12 (lv_at hl 4 rfl) ?_
        refine lv_aload_n hx hb dX12_boatsGo_14 rfl (lv_at hl 0 rfl) ?_
        refine pg_f (v := .ref this_a) (C := RX12) (T := TX12) (N := 31) hx hb hts (tw_i inlX12) hown hK hP hL_this hK_this (by decide) rfl 0 (by decide) (hts _ (tw_c tw_176)) (pq_hv rfl hR_this_a) dX12_boatsGo_15 ?_
        refine lv_iconst (v := 5) hx hb dX12_boatsGo_18 (by decide) ?_
        refine pl_i hx hb hK hP hL_this_a hK_this_a hN_this_a (vp_in_iff.mpr (by decide)) dX12_boatsGo_19 ?_
        refine lv_tov (ri this_a 5) (hG.2.2.1 this_a hT_this_a 5 (by decide) (by decide)) ?_
        have h_6397 : rg (ri this_a 5) 0 40 := GM.z0 hG0 (by rw [hT_this_a]; decide) (i := 5) (k := 5) (by decide) rfl
        have uh_6397 := h_6397.1
        have vh_6397 := h_6397.2
        refine lv_icmp_ge (tgt := 130) hx hb dX12_boatsGo_20 (by decide) (fun c_6398 => ?_) (fun c_6398 => ?_)
        · have tc_6399 : (ri this_a 5).toInt ≤ (x_5717).toInt := Int32.le_iff_toInt_le.mp c_6398
          refine lv_aload_n hx hb dX12_boatsGo_130 rfl (lv_at hl 0 rfl) ?_
          refine pg_f (v := .ref this_a) (C := RX12) (T := TX12) (N := 31) hx hb hts (tw_i inlX12) hown hK hP hL_this hK_this (by decide) rfl 0 (by decide) (hts _ (tw_c tw_176)) (pq_hv rfl hR_this_a) dX12_boatsGo_131 ?_
          refine lv_bipush (v := 11) hx hb dX12_boatsGo_134 (by decide) ?_
          refine pl_i hx hb hK hP hL_this_a hK_this_a hN_this_a (vp_in_iff.mpr (by decide)) dX12_boatsGo_136 ?_
          refine lv_topi (fun x_6400 ex_6400 => ?_)
          refine lv_istore (lv' := [(4, .int x_6400), (0, .ref this), (1, .int a0), (2, .int x_1), (3, .int x_5716)]) hx hb dX12_boatsGo_137 hl (by decide) rfl (fun ls hl => ?_)
          refine lv_iconst (v := 0) hx hb dX12_boatsGo_139 (by decide) ?_
          refine lv_istore (lv' := [(5, .int 0), (4, .int x_6400), (0, .ref this), (1, .int a0), (2, .int x_1), (3, .int x_5716)]) hx hb dX12_boatsGo_140 hl (by decide) rfl (fun ls hl => ?_)
          have L_6789 : ∀ (n_6788 : Nat) (x_6757 : Int32) (x_6758 : Int32) (ri_6759 : Nat → Nat → Int32) (H : Heap) (locs : List Loc) (ls : Array Slot), rg x_6758 0 40 → ((x_5716).toInt ≤ 40) → (40 - (x_6758).toInt).toNat < n_6788 → GM [1403] tg σ I ri I_3 ri_6759 rq → va_P D vwCl (pq_P t σ (I_3, J, ri_6759, rj_5719, rq)) H → va_D A (pq_P t σ (I_3, J, ri_6759, rj_5719, rq)) → va_S A s.heap H locs → lv_has ls 6 [(0, .ref this), (1, .int a0), (3, .int x_5716), (4, .int x_6757), (5, .int x_6758)] → W p l e ({ frames := 5, cells := 0, slots := 0, locals := 125 } : Room) s m (List.toArray ([.ref this, .int a0] : List Value)) below meth c H locs 0 0 Q (F0 m 142 ls []) := by
            intro n_6788
            induction n_6788 with
            | zero => intro x_6757 x_6758 ri_6759 H locs ls h_6793 hrel_6794 hm_6787 hG hP hD hS hl; exact absurd hm_6787 (Nat.not_lt_zero _)
            | succ n_6788 ih_6790 =>
              intro x_6757 x_6758 ri_6759 H locs ls h_6793 hrel_6794 hm_6787 hG hP hD hS hl
              have uh_6793 := h_6793.1
              have vh_6793 := h_6793.2
              refine lv_iload hx hb dX12_boatsGo_142 (lv_at hl 4 rfl) ?_
              refine lv_iload_n hx hb dX12_boatsGo_144 rfl (lv_at hl 2 rfl) ?_
              refine lv_icmp_ge (tgt := 188) hx hb dX12_boatsGo_145 (by decide) (fun c_6795 => ?_) (fun c_6795 => ?_)
              · have tc_6796 : (x_5716).toInt ≤ (x_6758).toInt := Int32.le_iff_toInt_le.mp c_6795
                subst hQ
                exact W.vret hx hb hr (fun t1 ht hW => ⟨⟨(σ, I_3, J, ri_6759, rj_5719, rq), rfl, ⟨I_3, ri_6759, rj_5719, rfl, hG⟩, by rw [ht]; exact hP, va_K.moved hW.alike hK, hD⟩, hS.F ht⟩) hS.2.2 dX12_boatsGo_188
              · have tc_6797 : (x_6758).toInt < (x_5716).toInt := Int32.lt_iff_toInt_lt.mp (nle c_6795)
                have h_6798 : rg x_6758 0 39 := rg_lt1 (nle c_6795) h_6793 h_6393 (by decide)
                have uh_6798 := h_6798.1
                have vh_6798 := h_6798.2
                have h_6799 : rg x_5716 1 40 := rg_lt2 (nle c_6795) h_6793 h_6393 (by decide)
                have uh_6799 := h_6799.1
                have vh_6799 := h_6799.2
                refine lv_aload_n hx hb dX12_boatsGo_148 rfl (lv_at hl 0 rfl) ?_
                refine pg_f (v := .ref this_looked) (C := RX12) (T := TX12) (N := 31) hx hb hts (tw_i inlX12) hown hK hP hL_this hK_this (by decide) rfl 28 (by decide) (hts _ (tw_c tw_189)) (pq_hv rfl hR_this_looked) dX12_boatsGo_149 ?_
                refine lv_aload_n hx hb dX12_boatsGo_152 rfl (lv_at hl 0 rfl) ?_
                refine pg_f (v := .ref this_row) (C := RX12) (T := TX12) (N := 31) hx hb hts (tw_i inlX12) hown hK hP hL_this hK_this (by decide) rfl 27 (by decide) (hts _ (tw_c tw_188)) (pq_hv rfl hR_this_row) dX12_boatsGo_153 ?_
                refine lv_iload hx hb dX12_boatsGo_156 (lv_at hl 4 rfl) ?_
                refine pl_i hx hb hK hP hL_this_row hK_this_row hN_this_row (rg_in h_6798 (by decide)) dX12_boatsGo_158 ?_
                refine lv_topi (fun x_6800 ex_6800 => ?_)
                have h_6801 : rg x_6800 0 39 := rg_of_eq ex_6800 (GM.rR hG hT_this_row rfl)
                have uh_6801 := h_6801.1
                have vh_6801 := h_6801.2
                refine pl_z hx hb hK hP hL_this_looked hK_this_looked hN_this_looked (rg_in h_6801 (by decide)) dX12_boatsGo_159 ?_
                refine lv_topi (fun x_6802 ex_6802 => ?_)
                have h_6803 : rg x_6802 0 1 := rg_of_eq ex_6802 (GM.rR hG hT_this_looked rfl)
                have uh_6803 := h_6803.1
                have vh_6803 := h_6803.2
                have K_6820 : ∀  (x_6816 : Int32) (ri_6817 : Nat → Nat → Int32) (H : Heap) (locs : List Loc) (ls : Array Slot), GM [1403] tg σ I ri I_3 ri_6817 rq → va_P D vwCl (pq_P t σ (I_3, J, ri_6817, rj_5719, rq)) H → va_D A (pq_P t σ (I_3, J, ri_6817, rj_5719, rq)) → va_S A s.heap H locs → lv_has ls 6 [(0, .ref this), (1, .int a0), (3, .int x_5716), (4, .int x_6816), (5, .int x_6758)] → W p l e ({ frames := 5, cells := 0, slots := 0, locals := 125 } : Room) s m (List.toArray ([.ref this, .int a0] : List Value)) below meth c H locs 0 0 Q (F0 m 182 ls []) := by
                  intro x_6816 ri_6817 H locs ls hG hP hD hS hl
                  obtain ⟨x_6821, ex_6821⟩ : ∃ y : Int32, y = x_6758 + Int32.ofInt 1 := ⟨_, rfl⟩
                  have h_6822 : rg x_6821 1 40 := rg_of_eq ex_6821 (rg_add h_6798 (rg_k (Int32.ofInt 1) 1 rfl) (by decide))
                  have uh_6822 := h_6822.1
                  have vh_6822 := h_6822.2
                  have tx_6821 : (x_6821).toInt = (x_6758).toInt + 1 := by rw [ex_6821]; exact i_add_rg (a2 := (x_6758).toInt) (b2 := 1) rfl rfl h_6798 (rg_k (Int32.ofInt 1) 1 rfl) (by decide)
                  refine lv_iinc (v := x_6821) (lv' := [(5, .int x_6821), (0, .ref this), (1, .int a0), (3, .int x_5716), (4, .int x_6816)]) hx hb dX12_boatsGo_182 hl (k := 4) rfl ex_6821.symm (by decide) rfl (fun ls hl => ?_)
                  refine lv_goto (tgt := 142) hx hb dX12_boatsGo_185 (by decide) ?_
                  exact ih_6790 x_6816 x_6821 ri_6817 _ _ _ (rg_w h_6822 (by decide)) (by omega) (ms_up 1 hm_6787 ex_6821 rfl (by decide) h_6798 (by decide) (by decide)) hG hP hD hS (lv_sub hl [1, 2, 3, 4, 0] rfl)
                refine lv_if_ne (tgt := 182) hx hb dX12_boatsGo_160 (by decide) (fun c_6823 => ?_) (fun c_6823 => ?_)
                · have tc_6824 : (x_6802).toInt ≠ 0 := fun q => c_6823 (Int32.toInt_inj.mp q)
                  have h_6825 : rg x_6802 1 1 := rg_ne c_6823 h_6803 0 rfl (by decide)
                  have uh_6825 := h_6825.1
                  have vh_6825 := h_6825.2
                  exact K_6820 x_6757 ri_6759 _ _ _ hG hP hD hS (lv_sub hl [0, 1, 2, 3, 4] rfl)
                · have tc_6826 : (x_6802).toInt = 0 := congrArg Int32.toInt c_6823
                  have h_6827 : rg x_6802 0 0 := rg_and h_6803 (rg_of_eq c_6823 (rg_k (0 : Int32) 0 rfl)) (by decide)
                  have uh_6827 := h_6827.1
                  have vh_6827 := h_6827.2
                  refine lv_iload hx hb dX12_boatsGo_163 (lv_at hl 3 rfl) ?_
                  refine lv_aload_n hx hb dX12_boatsGo_165 rfl (lv_at hl 0 rfl) ?_
                  refine lv_aload_n hx hb dX12_boatsGo_166 rfl (lv_at hl 0 rfl) ?_
                  refine pg_f (v := .ref this_row) (C := RX12) (T := TX12) (N := 31) hx hb hts (tw_i inlX12) hown hK hP hL_this hK_this (by decide) rfl 27 (by decide) (hts _ (tw_c tw_188)) (pq_hv rfl hR_this_row) dX12_boatsGo_167 ?_
                  refine lv_iload hx hb dX12_boatsGo_170 (lv_at hl 4 rfl) ?_
                  refine pl_i hx hb hK hP hL_this_row hK_this_row hN_this_row (rg_in h_6798 (by decide)) dX12_boatsGo_172 ?_
                  refine lv_tov x_6800 ex_6800.symm ?_
                  refine lv_iload_n hx hb dX12_boatsGo_173 rfl (lv_at hl 1 rfl) ?_
                  refine lv_iload hx hb dX12_boatsGo_174 (lv_at hl 3 rfl) ?_
                  refine pk_i (va_runV (As := [.int x_6800, .int a0, .int x_6757]) (rest := [.int x_6757]) ⟨hx, hb, hml, hown, hts⟩ (s_X12_family l D t σ I_3 J ri_6759 rj_5719 rq H.size tg hSH hG.1 this x_6800 a0 x_6757 hL_this hK_this (rg_w h_6801 (by decide))) (cwV 3 hts (tw_V tw_1255 tw_1256 tw_1257 tw_5 tw_1258) rfl rfl rfl cv_yX12_family_3 ⟨Nat.le_of_ble_eq_true rfl, Nat.le_of_ble_eq_true rfl⟩) ⟨pq_blind, pq_recv hK hP hL_this hK_this (by decide) rfl, pq_pre hK hN hP hD⟩ rfl rfl hl.1 rfl (lv_room (Nat.le_of_ble_eq_true rfl)) dX12_boatsGo_176 ⟨Nat.le_of_ble_eq_true rfl, Nat.le_of_ble_eq_true rfl⟩) hD hS hA (fun x_6828 σ1 μ1 H locs hw_6829 hP hD hS => ?_)
                  obtain ⟨ri_6830, hu_6831, hg_6832⟩ := hw_6829
                  obtain ⟨hu_6831a, hu_6831b⟩ := Prod.mk.inj hu_6831
                  rw [hu_6831a, hu_6831b] at hP hD
                  have hG := GM.tr hG hg_6832 (by decide)
                  refine lv_isub hx hb dX12_boatsGo_179 ?_
                  refine lv_topi (fun x_6834 ex_6834 => ?_)
                  refine lv_istore (lv' := [(4, .int x_6834), (0, .ref this), (1, .int a0), (3, .int x_5716), (5, .int x_6758)]) hx hb dX12_boatsGo_180 hl (by decide) rfl (fun ls hl => ?_)
                  exact K_6820 x_6834 ri_6830 _ _ _ hG hP hD hS (lv_sub hl [1, 2, 3, 0, 4] rfl)
          exact L_6789 _ x_6400 (0 : Int32) ri_5718 _ _ _ (rg_w (rg_k (0 : Int32) 0 rfl) (by decide)) (by have k0 : (0 : Int32).toInt = 0 := rfl; omega) (Nat.lt_succ_self _) hG hP hD hS (lv_sub hl [2, 3, 5, 1, 0] rfl)
        · have tc_6835 : (x_5717).toInt < (ri this_a 5).toInt := Int32.lt_iff_toInt_lt.mp (nle c_6398)
          have h_6836 : rg x_5717 0 39 := rg_lt1 (nle c_6398) h_6394 h_6397 (by decide)
          have uh_6836 := h_6836.1
          have vh_6836 := h_6836.2
          have h_6837 : rg (ri this_a 5) 1 40 := rg_lt2 (nle c_6398) h_6394 h_6397 (by decide)
          have uh_6837 := h_6837.1
          have vh_6837 := h_6837.2
          refine lv_aload_n hx hb dX12_boatsGo_23 rfl (lv_at hl 0 rfl) ?_
          refine pg_f (v := .ref this_looked) (C := RX12) (T := TX12) (N := 31) hx hb hts (tw_i inlX12) hown hK hP hL_this hK_this (by decide) rfl 28 (by decide) (hts _ (tw_c tw_189)) (pq_hv rfl hR_this_looked) dX12_boatsGo_24 ?_
          refine lv_iload hx hb dX12_boatsGo_27 (lv_at hl 4 rfl) ?_
          refine lv_iconst (v := 1) hx hb dX12_boatsGo_29 (by decide) ?_
          refine pt_z hx hb hK hP hD hS hL_this_looked hK_this_looked hN_this_looked (rg_in h_6836 (by decide)) (rg_w (rg_k (1 : Int32) 1 rfl) (by decide)) dX12_boatsGo_30 (fun r_6838 H locs er_6838 hP hD hS => ?_)
          have hG := GM.wR hG hSH hT_this_looked rfl er_6838 (rg_w (rg_k (1 : Int32) 1 rfl) (by decide)) (by decide)
          refine lv_aload_n hx hb dX12_boatsGo_31 rfl (lv_at hl 0 rfl) ?_
          refine lv_iload hx hb dX12_boatsGo_32 (lv_at hl 4 rfl) ?_
          refine pk_i (va_runV (As := [.int x_5717]) (rest := []) ⟨hx, hb, hml, hown, hts⟩ (s_X12_isOnRing l D t σ I_3 J r_6838 rj_5719 rq H.size tg hSH hG.1 this x_5717 hL_this hK_this (rg_w h_6836 (by decide)) this_a hR_this_a hL_this_a hK_this_a hN_this_a hT_this_a) (cwV 1 hts (tw_V tw_1221 tw_1222 tw_1223 tw_5 tw_1224) rfl rfl rfl cv_yX12_isOnRing_1 ⟨Nat.le_of_ble_eq_true rfl, Nat.le_of_ble_eq_true rfl⟩) ⟨pq_blind, pq_recv hK hP hL_this hK_this (by decide) rfl, pq_pre hK hN hP hD⟩ rfl rfl hl.1 rfl (lv_room (Nat.le_of_ble_eq_true rfl)) dX12_boatsGo_34 ⟨Nat.le_of_ble_eq_true rfl, Nat.le_of_ble_eq_true rfl⟩) hD hS hA (fun x_6839 σ1 μ1 H locs hw_6840 hP hD hS => ?_)
          obtain ⟨hu_6841, hr_6843⟩ := hw_6840
          obtain ⟨hu_6841a, hu_6841b⟩ := Prod.mk.inj hu_6841
          rw [hu_6841a, hu_6841b] at hP hD
          have h_6844 : rg x_6839 0 1 := by rcases hr_6843 with ⟨q, -⟩ | ⟨q, -⟩ <;> rw [q] <;> exact ⟨by decide, by decide⟩
          have uh_6844 := h_6844.1
          have vh_6844 := h_6844.2
          refine lv_if_eq (tgt := 124) hx hb dX12_boatsGo_37 (by decide) (fun c_6845 => ?_) (fun c_6845 => ?_)
          · have f_6846 := (hr_6843.resolve_left (fun q => absurd (q.1.symm.trans c_6845) (by decide))).2
            have tc_6847 : (x_6839).toInt = 0 := congrArg Int32.toInt c_6845
            have h_6848 : rg x_6839 0 0 := rg_and h_6844 (rg_of_eq c_6845 (rg_k (0 : Int32) 0 rfl)) (by decide)
            have uh_6848 := h_6848.1
            have vh_6848 := h_6848.2
            obtain ⟨x_6849, ex_6849⟩ : ∃ y : Int32, y = x_5717 + Int32.ofInt 1 := ⟨_, rfl⟩
            have h_6850 : rg x_6849 1 40 := rg_of_eq ex_6849 (rg_add h_6836 (rg_k (Int32.ofInt 1) 1 rfl) (by decide))
            have uh_6850 := h_6850.1
            have vh_6850 := h_6850.2
            have tx_6849 : (x_6849).toInt = (x_5717).toInt + 1 := by rw [ex_6849]; exact i_add_rg (a2 := (x_5717).toInt) (b2 := 1) rfl rfl h_6836 (rg_k (Int32.ofInt 1) 1 rfl) (by decide)
            refine lv_iinc (v := x_6849) (lv' := [(4, .int x_6849), (0, .ref this), (1, .int a0), (2, .int x_1), (3, .int x_5716)]) hx hb dX12_boatsGo_124 hl (k := 4) rfl ex_6849.symm (by decide) rfl (fun ls hl => ?_)
            refine lv_goto (tgt := 12) hx hb dX12_boatsGo_127 (by decide) ?_
            exact ih_6388 x_5716 x_6849 r_6838 rj_5719 _ _ _ (rg_w h_6393 (by decide)) (rg_w h_6850 (by decide)) (by omega) (rwP_o hrel_6396 er_6838 (tg_ne hT_this_a hT_this_looked (by decide)) (tg_ne hT_this_row hT_this_looked (by decide))) (ms_up 1 hm_6385 ex_6849 rfl (by decide) h_6836 (by decide) (by decide)) hG hP hD hS (lv_sub hl [1, 2, 3, 4, 0] rfl)
          · have f_6851 := (hr_6843.resolve_right (fun q => c_6845 q.1)).2
            have tc_6852 : (x_6839).toInt ≠ 0 := fun q => c_6845 (Int32.toInt_inj.mp q)
            have h_6853 : rg x_6839 1 1 := rg_ne c_6845 h_6844 0 rfl (by decide)
            have uh_6853 := h_6853.1
            have vh_6853 := h_6853.2
            refine lv_aload_n hx hb dX12_boatsGo_40 rfl (lv_at hl 0 rfl) ?_
            refine lv_iconst (v := 3) hx hb dX12_boatsGo_41 (by decide) ?_
            refine lv_iload hx hb dX12_boatsGo_42 (lv_at hl 4 rfl) ?_
            refine lv_iload_n hx hb dX12_boatsGo_44 rfl (lv_at hl 1 rfl) ?_
            refine pk_i (va_runV (As := [.int 3, .int x_5717, .int a0]) (rest := []) ⟨hx, hb, hml, hown, hts⟩ (s_X12_isFor l D t σ I_3 J r_6838 rj_5719 rq H.size tg hSH hG.1 this (3 : Int32) x_5717 a0 hL_this hK_this (rg_w (rg_k (3 : Int32) 3 rfl) (by decide)) (rg_w h_6836 (by decide)) this_a hR_this_a hL_this_a hK_this_a hN_this_a hT_this_a) (cwV 3 hts (tw_V tw_971 tw_972 tw_973 tw_5 tw_974) rfl rfl rfl cv_yX12_isFor_3 ⟨Nat.le_of_ble_eq_true rfl, Nat.le_of_ble_eq_true rfl⟩) ⟨pq_blind, pq_recv hK hP hL_this hK_this (by decide) rfl, pq_pre hK hN hP hD⟩ rfl rfl hl.1 rfl (lv_room (Nat.le_of_ble_eq_true rfl)) dX12_boatsGo_45 ⟨Nat.le_of_ble_eq_true rfl, Nat.le_of_ble_eq_true rfl⟩) hD hS hA (fun x_6854 σ1 μ1 H locs hw_6855 hP hD hS => ?_)
            obtain ⟨ri_6856, rj_6857, hu_6858, hg_6859, hp_6861, hr_6860⟩ := hw_6855
            obtain ⟨hu_6858a, hu_6858b⟩ := Prod.mk.inj hu_6858
            rw [hu_6858a, hu_6858b] at hP hD
            have hG := GM.tr hG hg_6859 (by decide)
            have h_6862 : rg x_6854 0 1 := by rcases hr_6860 with ⟨q, -⟩ | ⟨q, -⟩ <;> rw [q] <;> exact ⟨by decide, by decide⟩
            have uh_6862 := h_6862.1
            have vh_6862 := h_6862.2
            refine lv_if_ne (tgt := 54) hx hb dX12_boatsGo_48 (by decide) (fun c_6863 => ?_) (fun c_6863 => ?_)
            · have tc_6864 : (x_6854).toInt ≠ 0 := fun q => c_6863 (Int32.toInt_inj.mp q)
              have h_6865 : rg x_6854 1 1 := rg_ne c_6863 h_6862 0 rfl (by decide)
              have uh_6865 := h_6865.1
              have vh_6865 := h_6865.2
              refine lv_aload_n hx hb dX12_boatsGo_54 rfl (lv_at hl 0 rfl) ?_
              refine pg_f (v := .ref this_looked) (C := RX12) (T := TX12) (N := 31) hx hb hts (tw_i inlX12) hown hK hP hL_this hK_this (by decide) rfl 28 (by decide) (hts _ (tw_c tw_189)) (pq_hv rfl hR_this_looked) dX12_boatsGo_55 ?_
              refine lv_iload hx hb dX12_boatsGo_58 (lv_at hl 4 rfl) ?_
              refine lv_iconst (v := 0) hx hb dX12_boatsGo_60 (by decide) ?_
              refine pt_z hx hb hK hP hD hS hL_this_looked hK_this_looked hN_this_looked (rg_in h_6836 (by decide)) (rg_w (rg_k (0 : Int32) 0 rfl) (by decide)) dX12_boatsGo_61 (fun r_6866 H locs er_6866 hP hD hS => ?_)
              have hG := GM.wR hG hSH hT_this_looked rfl er_6866 (rg_w (rg_k (0 : Int32) 0 rfl) (by decide)) (by decide)
              refine lv_iload_n hx hb dX12_boatsGo_62 rfl (lv_at hl 3 rfl) ?_
              refine lv_istore (lv' := [(5, .int x_5716), (0, .ref this), (1, .int a0), (2, .int x_1), (3, .int x_5716), (4, .int x_5717)]) hx hb dX12_boatsGo_63 hl (by decide) rfl (fun ls hl => ?_)
              have L_7033 : ∀ (n_7032 : Nat) (x_6989 : Int32) (ri_6990 : Nat → Nat → Int32) (H : Heap) (locs : List Loc) (ls : Array Slot), rg x_6989 0 40 → (0 ≤ (x_6989).toInt ∧ (x_6989).toInt ≤ (x_5716).toInt) → (rwP this_a this_row ri_6990 (x_5716).toInt) → ((x_6989).toInt = (x_5716).toInt ∨ rg (ri_6990 this_a (743 + 12 * (ri_6990 this_row ((x_5716).toInt).toNat).toNatClampNeg)) 0 4) → (rg (ri_6990 this_a (743 + 12 * (x_5717).toNatClampNeg)) 0 4) → ((x_6989).toInt).toNat < n_7032 → GM [1403] tg σ I ri I_3 ri_6990 rq → va_P D vwCl (pq_P t σ (I_3, J, ri_6990, rj_6857, rq)) H → va_D A (pq_P t σ (I_3, J, ri_6990, rj_6857, rq)) → va_S A s.heap H locs → lv_has ls 6 [(0, .ref this), (1, .int a0), (2, .int x_1), (3, .int x_5716), (4, .int x_5717), (5, .int x_6989)] → W p l e ({ frames := 5, cells := 0, slots := 0, locals := 125 } : Room) s m (List.toArray ([.ref this, .int a0] : List Value)) below meth c H locs 0 0 Q (F0 m 65 ls []) := by
                intro n_7032
                induction n_7032 with
                | zero => intro x_6989 ri_6990 H locs ls h_7040 hrel_7041 hrel_7042 hrel_7043 hrel_7044 hm_7031 hG hP hD hS hl; exact absurd hm_7031 (Nat.not_lt_zero _)
                | succ n_7032 ih_7034 =>
                  intro x_6989 ri_6990 H locs ls h_7040 hrel_7041 hrel_7042 hrel_7043 hrel_7044 hm_7031 hG hP hD hS hl
                  have uh_7040 := h_7040.1
                  have vh_7040 := h_7040.2
                  refine lv_iload hx hb dX12_boatsGo_65 (lv_at hl 5 rfl) ?_
                  have K_7080 : ∀  (H : Heap) (locs : List Loc) (ls : Array Slot), GM [1403] tg σ I ri I_3 ri_6990 rq → va_P D vwCl (pq_P t σ (I_3, J, ri_6990, rj_6857, rq)) H → va_D A (pq_P t σ (I_3, J, ri_6990, rj_6857, rq)) → va_S A s.heap H locs → lv_has ls 6 [(0, .ref this), (1, .int a0), (2, .int x_1), (3, .int x_5716), (4, .int x_5717), (5, .int x_6989)] → W p l e ({ frames := 5, cells := 0, slots := 0, locals := 125 } : Room) s m (List.toArray ([.ref this, .int a0] : List Value)) below meth c H locs 0 0 Q (F0 m 112 ls []) := by
                    intro H locs ls hG hP hD hS hl
                    refine lv_aload_n hx hb dX12_boatsGo_112 rfl (lv_at hl 0 rfl) ?_
                    refine pg_f (v := .ref this_row) (C := RX12) (T := TX12) (N := 31) hx hb hts (tw_i inlX12) hown hK hP hL_this hK_this (by decide) rfl 27 (by decide) (hts _ (tw_c tw_188)) (pq_hv rfl hR_this_row) dX12_boatsGo_113 ?_
                    refine lv_iload hx hb dX12_boatsGo_116 (lv_at hl 5 rfl) ?_
                    refine lv_iload hx hb dX12_boatsGo_118 (lv_at hl 4 rfl) ?_
                    have h_7082 : rg x_6989 0 39 := ⟨by omega, by omega⟩
                    have uh_7082 := h_7082.1
                    have vh_7082 := h_7082.2
                    refine pt_i hx hb hK hP hD hS hL_this_row hK_this_row hN_this_row (rg_in h_7082 (by decide)) dX12_boatsGo_120 (fun r_7081 H locs er_7081 hP hD hS => ?_)
                    have hG := GM.wR hG hSH hT_this_row rfl er_7081 (rg_w h_6836 (by decide)) (by decide)
                    have h_7083 : rg x_5716 0 39 := ⟨by omega, by omega⟩
                    have uh_7083 := h_7083.1
                    have vh_7083 := h_7083.2
                    obtain ⟨x_7084, ex_7084⟩ : ∃ y : Int32, y = x_5716 + Int32.ofInt 1 := ⟨_, rfl⟩
                    have h_7085 : rg x_7084 1 40 := rg_of_eq ex_7084 (rg_add h_7083 (rg_k (Int32.ofInt 1) 1 rfl) (by decide))
                    have uh_7085 := h_7085.1
                    have vh_7085 := h_7085.2
                    have tx_7084 : (x_7084).toInt = (x_5716).toInt + 1 := by rw [ex_7084]; exact i_add_rg (a2 := (x_5716).toInt) (b2 := 1) rfl rfl h_7083 (rg_k (Int32.ofInt 1) 1 rfl) (by decide)
                    refine lv_iinc (v := x_7084) (lv' := [(3, .int x_7084), (0, .ref this), (1, .int a0), (2, .int x_1), (4, .int x_5717), (5, .int x_6989)]) hx hb dX12_boatsGo_121 hl (k := 3) rfl ex_7084.symm (by decide) rfl (fun ls hl => ?_)
                    obtain ⟨x_7086, ex_7086⟩ : ∃ y : Int32, y = x_5717 + Int32.ofInt 1 := ⟨_, rfl⟩
                    have h_7087 : rg x_7086 1 40 := rg_of_eq ex_7086 (rg_add h_6836 (rg_k (Int32.ofInt 1) 1 rfl) (by decide))
                    have uh_7087 := h_7087.1
                    have vh_7087 := h_7087.2
                    have tx_7086 : (x_7086).toInt = (x_5717).toInt + 1 := by rw [ex_7086]; exact i_add_rg (a2 := (x_5717).toInt) (b2 := 1) rfl rfl h_6836 (rg_k (Int32.ofInt 1) 1 rfl) (by decide)
                    refine lv_iinc (v := x_7086) (lv' := [(4, .int x_7086), (3, .int x_7084), (0, .ref this), (1, .int a0), (2, .int x_1), (5, .int x_6989)]) hx hb dX12_boatsGo_124 hl (k := 4) rfl ex_7086.symm (by decide) rfl (fun ls hl => ?_)
                    refine lv_goto (tgt := 12) hx hb dX12_boatsGo_127 (by decide) ?_
                    exact ih_6388 x_7084 x_7086 r_7081 rj_6857 _ _ _ (rg_w h_7085 (by decide)) (rg_w h_7087 (by decide)) (by omega) (rwP_s (rwP_w hrel_7042 er_7081 (tg_ne hT_this_a hT_this_row (by decide)) hrel_7044) (by omega) (rwP_at (k := ((x_5716).toInt).toNat) (by have z0 := clampE x_6989; exact (hrel_7043).elim (fun q => Or.inl (by omega)) Or.inr) er_7081 (tg_ne hT_this_a hT_this_row (by decide)) hrel_7044) (by omega)) (ms_up 1 hm_6385 ex_7086 rfl (by decide) h_6836 (by decide) (by decide)) hG hP hD hS (lv_sub hl [2, 3, 4, 1, 0] rfl)
                  refine lv_if_le (tgt := 112) hx hb dX12_boatsGo_67 (by decide) (fun c_7088 => ?_) (fun c_7088 => ?_)
                  · have tc_7089 : (x_6989).toInt ≤ 0 := Int32.le_iff_toInt_le.mp c_7088
                    have h_7090 : rg x_6989 0 0 := rg_le1 c_7088 h_7040 (rg_k (0 : Int32) 0 rfl) (by decide)
                    have uh_7090 := h_7090.1
                    have vh_7090 := h_7090.2
                    exact K_7080 _ _ _ hG hP hD hS (lv_sub hl [0, 1, 2, 3, 4, 5] rfl)
                  · have tc_7091 : 0 < (x_6989).toInt := Int32.lt_iff_toInt_lt.mp (nle c_7088)
                    have h_7092 : rg x_6989 1 40 := rg_lt2 (nle c_7088) (rg_k (0 : Int32) 0 rfl) h_7040 (by decide)
                    have uh_7092 := h_7092.1
                    have vh_7092 := h_7092.2
                    refine lv_aload_n hx hb dX12_boatsGo_70 rfl (lv_at hl 0 rfl) ?_
                    refine lv_iload hx hb dX12_boatsGo_71 (lv_at hl 4 rfl) ?_
                    refine lv_aload_n hx hb dX12_boatsGo_73 rfl (lv_at hl 0 rfl) ?_
                    refine pg_f (v := .ref this_row) (C := RX12) (T := TX12) (N := 31) hx hb hts (tw_i inlX12) hown hK hP hL_this hK_this (by decide) rfl 27 (by decide) (hts _ (tw_c tw_188)) (pq_hv rfl hR_this_row) dX12_boatsGo_74 ?_
                    refine lv_iload hx hb dX12_boatsGo_77 (lv_at hl 5 rfl) ?_
                    refine lv_iconst (v := 1) hx hb dX12_boatsGo_79 (by decide) ?_
                    refine lv_isub hx hb dX12_boatsGo_80 ?_
                    refine lv_topi (fun x_7093 ex_7093 => ?_)
                    have h_7094 : rg x_7093 0 39 := rg_of_eq ex_7093 (rg_sub h_7092 (rg_k (1 : Int32) 1 rfl) (by decide))
                    have uh_7094 := h_7094.1
                    have vh_7094 := h_7094.2
                    have tx_7093 : (x_7093).toInt = (x_6989).toInt - 1 := by rw [ex_7093]; exact i_sub_rg (a2 := (x_6989).toInt) (b2 := 1) rfl rfl h_7092 (rg_k (1 : Int32) 1 rfl) (by decide)
                    refine pl_i hx hb hK hP hL_this_row hK_this_row hN_this_row (rg_in h_7094 (by decide)) dX12_boatsGo_81 ?_
                    refine lv_topi (fun x_7095 ex_7095 => ?_)
                    have h_7096 : rg x_7095 0 39 := rg_of_eq ex_7095 (GM.rR hG hT_this_row rfl)
                    have uh_7096 := h_7096.1
                    have vh_7096 := h_7096.2
                    refine lv_iload_n hx hb dX12_boatsGo_82 rfl (lv_at hl 1 rfl) ?_
                    refine lv_iload_n hx hb dX12_boatsGo_83 rfl (lv_at hl 2 rfl) ?_
                    have hq0 : rg (ri_6990 this_a (743 + 12 * (x_5717).toNatClampNeg)) 0 4 := hrel_7044
                    have hq1 : rg (ri_6990 this_a (743 + 12 * (x_7095).toNatClampNeg)) 0 4 := (by rw [ex_7095]; exact hrel_7042 _ (by have z0 := clampE x_7093; omega))
                    refine pk_i (va_runV (As := [.int x_5717, .int x_7095, .int a0, .int x_1]) (rest := []) ⟨hx, hb, hml, hown, hts⟩ (s_X12_goesAhead l D t σ I_3 J ri_6990 rj_6857 rq H.size tg hSH hG.1 this x_5717 x_7095 a0 x_1 hL_this hK_this (rg_w h_6836 (by decide)) (rg_w h_7096 (by decide)) (rg_w h_7 (by decide)) this_a hR_this_a hL_this_a hK_this_a hN_this_a hT_this_a (by assumption) (by assumption)) (cwV 4 hts (tw_V tw_1251 tw_1252 tw_1253 tw_5 tw_1254) rfl rfl rfl cv_yX12_goesAhead_4 ⟨Nat.le_of_ble_eq_true rfl, Nat.le_of_ble_eq_true rfl⟩) ⟨pq_blind, pq_recv hK hP hL_this hK_this (by decide) rfl, pq_pre hK hN hP hD⟩ rfl rfl hl.1 rfl (lv_room (Nat.le_of_ble_eq_true rfl)) dX12_boatsGo_84 ⟨Nat.le_of_ble_eq_true rfl, Nat.le_of_ble_eq_true rfl⟩) hD hS hA (fun x_7097 σ1 μ1 H locs hw_7098 hP hD hS => ?_)
                    obtain ⟨hu_7099, hr_7101⟩ := hw_7098
                    obtain ⟨hu_7099a, hu_7099b⟩ := Prod.mk.inj hu_7099
                    rw [hu_7099a, hu_7099b] at hP hD
                    have h_7102 : rg x_7097 0 1 := by rcases hr_7101 with ⟨q, -⟩ | ⟨q, -⟩ <;> rw [q] <;> exact ⟨by decide, by decide⟩
                    have uh_7102 := h_7102.1
                    have vh_7102 := h_7102.2
                    refine lv_if_eq (tgt := 112) hx hb dX12_boatsGo_87 (by decide) (fun c_7103 => ?_) (fun c_7103 => ?_)
                    · have tc_7104 : (x_7097).toInt = 0 := congrArg Int32.toInt c_7103
                      have h_7105 : rg x_7097 0 0 := rg_and h_7102 (rg_of_eq c_7103 (rg_k (0 : Int32) 0 rfl)) (by decide)
                      have uh_7105 := h_7105.1
                      have vh_7105 := h_7105.2
                      exact K_7080 _ _ _ hG hP hD hS (lv_sub hl [0, 1, 2, 3, 4, 5] rfl)
                    · have tc_7106 : (x_7097).toInt ≠ 0 := fun q => c_7103 (Int32.toInt_inj.mp q)
                      have h_7107 : rg x_7097 1 1 := rg_ne c_7103 h_7102 0 rfl (by decide)
                      have uh_7107 := h_7107.1
                      have vh_7107 := h_7107.2
                      refine lv_aload_n hx hb dX12_boatsGo_90 rfl (lv_at hl 0 rfl) ?_
                      refine pg_f (v := .ref this_row) (C := RX12) (T := TX12) (N := 31) hx hb hts (tw_i inlX12) hown hK hP hL_this hK_this (by decide) rfl 27 (by decide) (hts _ (tw_c tw_188)) (pq_hv rfl hR_this_row) dX12_boatsGo_91 ?_
                      refine lv_iload hx hb dX12_boatsGo_94 (lv_at hl 5 rfl) ?_
                      refine lv_aload_n hx hb dX12_boatsGo_96 rfl (lv_at hl 0 rfl) ?_
                      refine pg_f (v := .ref this_row) (C := RX12) (T := TX12) (N := 31) hx hb hts (tw_i inlX12) hown hK hP hL_this hK_this (by decide) rfl 27 (by decide) (hts _ (tw_c tw_188)) (pq_hv rfl hR_this_row) dX12_boatsGo_97 ?_
                      refine lv_iload hx hb dX12_boatsGo_100 (lv_at hl 5 rfl) ?_
                      refine lv_iconst (v := 1) hx hb dX12_boatsGo_102 (by decide) ?_
                      refine lv_isub hx hb dX12_boatsGo_103 ?_
                      refine lv_topi (fun x_7108 ex_7108 => ?_)
                      have h_7109 : rg x_7108 0 39 := rg_of_eq ex_7108 (rg_sub h_7092 (rg_k (1 : Int32) 1 rfl) (by decide))
                      have uh_7109 := h_7109.1
                      have vh_7109 := h_7109.2
                      have tx_7108 : (x_7108).toInt = (x_6989).toInt - 1 := by rw [ex_7108]; exact i_sub_rg (a2 := (x_6989).toInt) (b2 := 1) rfl rfl h_7092 (rg_k (1 : Int32) 1 rfl) (by decide)
                      refine pl_i hx hb hK hP hL_this_row hK_this_row hN_this_row (rg_in h_7109 (by decide)) dX12_boatsGo_104 ?_
                      refine lv_topi (fun x_7110 ex_7110 => ?_)
                      have h_7111 : rg x_7110 0 39 := rg_of_eq ex_7110 (GM.rR hG hT_this_row rfl)
                      have uh_7111 := h_7111.1
                      have vh_7111 := h_7111.2
                      have h_7113 : rg x_6989 1 39 := ⟨by omega, by omega⟩
                      have uh_7113 := h_7113.1
                      have vh_7113 := h_7113.2
                      refine pt_i hx hb hK hP hD hS hL_this_row hK_this_row hN_this_row (rg_in h_7113 (by decide)) dX12_boatsGo_105 (fun r_7112 H locs er_7112 hP hD hS => ?_)
                      have hG := GM.wR hG hSH hT_this_row rfl er_7112 (rg_w h_7111 (by decide)) (by decide)
                      obtain ⟨x_7114, ex_7114⟩ : ∃ y : Int32, y = x_6989 + Int32.ofInt (-1) := ⟨_, rfl⟩
                      have h_7115 : rg x_7114 0 38 := rg_of_eq ex_7114 (rg_add h_7113 (rg_k (Int32.ofInt (-1)) (-1) rfl) (by decide))
                      have uh_7115 := h_7115.1
                      have vh_7115 := h_7115.2
                      have tx_7114 : (x_7114).toInt = (x_6989).toInt + (-1) := by rw [ex_7114]; exact i_add_rg (a2 := (x_6989).toInt) (b2 := (-1)) rfl rfl h_7113 (rg_k (Int32.ofInt (-1)) (-1) rfl) (by decide)
                      refine lv_iinc (v := x_7114) (lv' := [(5, .int x_7114), (0, .ref this), (1, .int a0), (2, .int x_1), (3, .int x_5716), (4, .int x_5717)]) hx hb dX12_boatsGo_106 hl (k := 5) rfl ex_7114.symm (by decide) rfl (fun ls hl => ?_)
                      refine lv_goto (tgt := 65) hx hb dX12_boatsGo_109 (by decide) ?_
                      exact ih_7034 x_7114 r_7112 _ _ _ (rg_w h_7115 (by decide)) (by omega) (rwP_w hrel_7042 er_7112 (tg_ne hT_this_a hT_this_row (by decide)) (by rw [ex_7110]; exact hrel_7042 _ (by have z0 := clampE x_7108; omega))) (Or.inr (rwP_at (k := ((x_5716).toInt).toNat) (by have z0 := clampE x_6989; exact (hrel_7043).elim (fun q => Or.inl (by omega)) Or.inr) er_7112 (tg_ne hT_this_a hT_this_row (by decide)) (by rw [ex_7110]; exact hrel_7042 _ (by have z0 := clampE x_7108; omega)))) (rwV_o hrel_7044 er_7112 (tg_ne hT_this_a hT_this_row (by decide))) (by omega) hG hP hD hS (lv_sub hl [1, 2, 3, 4, 5, 0] rfl)
              exact L_7033 _ x_5716 r_6866 _ _ _ (rg_w h_6393 (by decide)) (by omega) (rwP_o (rwP_f (rwP_o hrel_6396 er_6838 (tg_ne hT_this_a hT_this_looked (by decide)) (tg_ne hT_this_row hT_this_looked (by decide))) (hp_6861 this_a (by rw [hT_this_a]; decide)) (hp_6861 this_row (by rw [hT_this_row]; decide))) er_6866 (tg_ne hT_this_a hT_this_looked (by decide)) (tg_ne hT_this_row hT_this_looked (by decide))) (Or.inl rfl) (rwV_o (rwV_f f_6851 (hp_6861 this_a (by rw [hT_this_a]; decide))) er_6866 (tg_ne hT_this_a hT_this_looked (by decide))) (Nat.lt_succ_self _) hG hP hD hS (lv_sub hl [1, 2, 3, 4, 5, 0] rfl)
            · have tc_7116 : (x_6854).toInt = 0 := congrArg Int32.toInt c_6863
              have h_7117 : rg x_6854 0 0 := rg_and h_6862 (rg_of_eq c_6863 (rg_k (0 : Int32) 0 rfl)) (by decide)
              have uh_7117 := h_7117.1
              have vh_7117 := h_7117.2
              refine lv_goto (tgt := 124) hx hb dX12_boatsGo_51 (by decide) ?_
              obtain ⟨x_7118, ex_7118⟩ : ∃ y : Int32, y = x_5717 + Int32.ofInt 1 := ⟨_, rfl⟩
              have h_7119 : rg x_7118 1 40 := rg_of_eq ex_7118 (rg_add h_6836 (rg_k (Int32.ofInt 1) 1 rfl) (by decide))
              have uh_7119 := h_7119.1
              have vh_7119 := h_7119.2
              have tx_7118 : (x_7118).toInt = (x_5717).toInt + 1 := by rw [ex_7118]; exact i_add_rg (a2 := (x_5717).toInt) (b2 := 1) rfl rfl h_6836 (rg_k (Int32.ofInt 1) 1 rfl) (by decide)
              refine lv_iinc (v := x_7118) (lv' := [(4, .int x_7118), (0, .ref this), (1, .int a0), (2, .int x_1), (3, .int x_5716)]) hx hb dX12_boatsGo_124 hl (k := 4) rfl ex_7118.symm (by decide) rfl (fun ls hl => ?_)
              refine lv_goto (tgt := 12) hx hb dX12_boatsGo_127 (by decide) ?_
              exact ih_6388 x_5716 x_7118 ri_6856 rj_6857 _ _ _ (rg_w h_6393 (by decide)) (rg_w h_7119 (by decide)) (by omega) (rwP_f (rwP_o hrel_6396 er_6838 (tg_ne hT_this_a hT_this_looked (by decide)) (tg_ne hT_this_row hT_this_looked (by decide))) (hp_6861 this_a (by rw [hT_this_a]; decide)) (hp_6861 this_row (by rw [hT_this_row]; decide))) (ms_up 1 hm_6385 ex_7118 rfl (by decide) h_6836 (by decide) (by decide)) hG hP hD hS (lv_sub hl [1, 2, 3, 4, 0] rfl)
    exact L_6387 _ (0 : Int32) (0 : Int32) ri rj _ _ _ (rg_w (rg_k (0 : Int32) 0 rfl) (by decide)) (rg_w (rg_k (0 : Int32) 0 rfl) (by decide)) (by have k0 : (0 : Int32).toInt = 0 := rfl; omega) (fun j hj => by have k0 : (0 : Int32).toInt = 0 := rfl; omega) (Nat.lt_succ_self _) hG hP hD hS (lv_sub hl [3, 4, 2, 1, 0] rfl)
  exact go _ _ _ hP hD hS hl
