theorem dX6_takeWord_0 : decode cX6_takeWord 0 = .ok (.aload_n 0, 1) := oc_42 (by decide +kernel)
theorem dX6_takeWord_1 : decode cX6_takeWord 1 = .ok (.getfield 19, 3) := oc_180 (a := 0) (b := 19) (by decide +kernel)
theorem dX6_takeWord_4 : decode cX6_takeWord 4 = .ok (.aload_n 0, 1) := oc_42 (by decide +kernel)
theorem dX6_takeWord_5 : decode cX6_takeWord 5 = .ok (.getfield 15, 3) := oc_180 (a := 0) (b := 15) (by decide +kernel)
theorem dX6_takeWord_39 : decode cX6_takeWord 39 = .ok (.aload_n 0, 1) := oc_42 (by decide +kernel)
theorem dX6_takeWord_40 : decode cX6_takeWord 40 = .ok (.bipush 34, 2) := oc_16 (a := 34) (by decide +kernel)
theorem dX6_takeWord_42 : decode cX6_takeWord 42 = .ok (.putfield 25, 3) := oc_181 (a := 0) (b := 25) (by decide +kernel)
theorem dX6_takeWord_45 : decode cX6_takeWord 45 = .ok (.iconst 0, 1) := oc_3 (by decide +kernel)
theorem dX6_takeWord_46 : decode cX6_takeWord 46 = .ok (.istore_n 1, 1) := oc_60 (by decide +kernel)
theorem dX6_takeWord_47 : decode cX6_takeWord 47 = .ok (.aload_n 0, 1) := oc_42 (by decide +kernel)
theorem tw_667 : Cond.fieldLink RX6 22 "RingsUnder$Scanner" "start" "I" ∈ wsL_law := sg_28 _ (List.mem_of_getElem? (i := 19) rfl)
theorem dX6_takeWord_48 : decode cX6_takeWord 48 = .ok (.getfield 22, 3) := oc_180 (a := 0) (b := 22) (by decide +kernel)
theorem dX6_takeWord_51 : decode cX6_takeWord 51 = .ok (.istore_n 2, 1) := oc_61 (by decide +kernel)
theorem dX6_takeWord_52 : decode cX6_takeWord 52 = .ok (.iconst 1, 1) := oc_4 (by decide +kernel)
theorem dX6_takeWord_53 : decode cX6_takeWord 53 = .ok (.istore_n 3, 1) := oc_62 (by decide +kernel)
theorem dX6_takeWord_54 : decode cX6_takeWord 54 = .ok (.iconst 0, 1) := oc_3 (by decide +kernel)
theorem dX6_takeWord_55 : decode cX6_takeWord 55 = .ok (.istore 4, 2) := oc_54 (by decide +kernel)
theorem dX6_takeWord_57 : decode cX6_takeWord 57 = .ok (.iload 4, 2) := oc_21 (by decide +kernel)
theorem dX6_takeWord_59 : decode cX6_takeWord 59 = .ok (.ldc 57, 2) := oc_18 (by decide +kernel)
theorem tw_685 : Cond.methodLink RX6 59 yJ0_length_8abf5 ∈ wsL_law := sg_29 _ (List.mem_of_getElem? (i := 13) rfl)
theorem tw_686 : Cond.instanceMethod yJ0_length_8abf5 ∈ wsL_law := sg_29 _ (List.mem_of_getElem? (i := 14) rfl)
theorem tw_687 : Cond.selects RJ0 yJ0_length_8abf5 yJ0_length_8abf5 ∈ wsL_law := sg_29 _ (List.mem_of_getElem? (i := 15) rfl)
theorem tw_689 : Cond.code yJ0_length_8abf5 cJ0_length_8abf5 1 (some .int) ∈ wsL_law := sg_29 _ (List.mem_of_getElem? (i := 17) rfl)
theorem dX6_takeWord_61 : decode cX6_takeWord 61 = .ok (.invokevirtual 59, 3) := oc_182 (a := 0) (b := 59) (by decide +kernel)
theorem dX6_takeWord_64 : decode cX6_takeWord 64 = .ok (.if_icmp .ge 100, 3) := oc_162 (a := 0) (b := 100) (by decide +kernel)
theorem dX6_takeWord_164 : decode cX6_takeWord 164 = .ok (.return_, 1) := oc_177 (by decide +kernel)
theorem dX6_takeWord_67 : decode cX6_takeWord 67 = .ok (.aload_n 0, 1) := oc_42 (by decide +kernel)
theorem dX6_takeWord_68 : decode cX6_takeWord 68 = .ok (.getfield 25, 3) := oc_180 (a := 0) (b := 25) (by decide +kernel)
theorem dX6_takeWord_71 : decode cX6_takeWord 71 = .ok (.bipush 34, 2) := oc_16 (a := 34) (by decide +kernel)
theorem dX6_takeWord_73 : decode cX6_takeWord 73 = .ok (.if_icmp .ne 91, 3) := oc_160 (a := 0) (b := 91) (by decide +kernel)
theorem dX6_takeWord_76 : decode cX6_takeWord 76 = .ok (.ldc 57, 2) := oc_18 (by decide +kernel)
theorem dX6_takeWord_78 : decode cX6_takeWord 78 = .ok (.iload 4, 2) := oc_21 (by decide +kernel)
theorem tw_697 : Cond.methodLink RX6 64 yJ0_charAt_5068e ∈ wsL_law := sg_30 _ (List.mem_of_getElem? (i := 1) rfl)
theorem tw_698 : Cond.instanceMethod yJ0_charAt_5068e ∈ wsL_law := sg_30 _ (List.mem_of_getElem? (i := 2) rfl)
theorem tw_699 : Cond.selects RJ0 yJ0_charAt_5068e yJ0_charAt_5068e ∈ wsL_law := sg_30 _ (List.mem_of_getElem? (i := 3) rfl)
theorem tw_700 : Cond.code yJ0_charAt_5068e cJ0_charAt_5068e 2 (some .char) ∈ wsL_law := sg_30 _ (List.mem_of_getElem? (i := 4) rfl)
theorem dX6_takeWord_80 : decode cX6_takeWord 80 = .ok (.invokevirtual 64, 3) := oc_182 (a := 0) (b := 64) (by decide +kernel)
theorem dX6_takeWord_83 : decode cX6_takeWord 83 = .ok (.bipush 32, 2) := oc_16 (a := 32) (by decide +kernel)
theorem dX6_takeWord_85 : decode cX6_takeWord 85 = .ok (.if_icmp .eq 43, 3) := oc_159 (a := 0) (b := 43) (by decide +kernel)
theorem dX6_takeWord_128 : decode cX6_takeWord 128 = .ok (.iload_n 3, 1) := oc_29 (by decide +kernel)
theorem dX6_takeWord_129 : decode cX6_takeWord 129 = .ok (.ifCond .eq 19, 3) := oc_153 (a := 0) (b := 19) (by decide +kernel)
theorem dX6_takeWord_148 : decode cX6_takeWord 148 = .ok (.iinc 1 1, 3) := oc_132 (b := 1) (by decide +kernel)
theorem dX6_takeWord_151 : decode cX6_takeWord 151 = .ok (.aload_n 0, 1) := oc_42 (by decide +kernel)
theorem dX6_takeWord_152 : decode cX6_takeWord 152 = .ok (.getfield 22, 3) := oc_180 (a := 0) (b := 22) (by decide +kernel)
theorem dX6_takeWord_155 : decode cX6_takeWord 155 = .ok (.istore_n 2, 1) := oc_61 (by decide +kernel)
theorem dX6_takeWord_156 : decode cX6_takeWord 156 = .ok (.iconst 1, 1) := oc_4 (by decide +kernel)
theorem dX6_takeWord_157 : decode cX6_takeWord 157 = .ok (.istore_n 3, 1) := oc_62 (by decide +kernel)
theorem dX6_takeWord_158 : decode cX6_takeWord 158 = .ok (.iinc 4 1, 3) := oc_132 (b := 1) (by decide +kernel)
theorem dX6_takeWord_161 : decode cX6_takeWord 161 = .ok (.goto (-104), 3) := oc_167 (a := 255) (b := 152) (by decide +kernel)
theorem dX6_takeWord_132 : decode cX6_takeWord 132 = .ok (.iload_n 2, 1) := oc_28 (by decide +kernel)
theorem dX6_takeWord_133 : decode cX6_takeWord 133 = .ok (.aload_n 0, 1) := oc_42 (by decide +kernel)
theorem dX6_takeWord_134 : decode cX6_takeWord 134 = .ok (.getfield 19, 3) := oc_180 (a := 0) (b := 19) (by decide +kernel)
theorem dX6_takeWord_137 : decode cX6_takeWord 137 = .ok (.if_icmp .ne 11, 3) := oc_160 (a := 0) (b := 11) (by decide +kernel)
theorem dX6_takeWord_140 : decode cX6_takeWord 140 = .ok (.aload_n 0, 1) := oc_42 (by decide +kernel)
theorem dX6_takeWord_141 : decode cX6_takeWord 141 = .ok (.iload_n 1, 1) := oc_27 (by decide +kernel)
theorem dX6_takeWord_142 : decode cX6_takeWord 142 = .ok (.putfield 25, 3) := oc_181 (a := 0) (b := 25) (by decide +kernel)
theorem dX6_takeWord_145 : decode cX6_takeWord 145 = .ok (.goto 13, 3) := oc_167 (a := 0) (b := 13) (by decide +kernel)
theorem dX6_takeWord_88 : decode cX6_takeWord 88 = .ok (.iload_n 3, 1) := oc_29 (by decide +kernel)
theorem dX6_takeWord_89 : decode cX6_takeWord 89 = .ok (.ifCond .eq 31, 3) := oc_153 (a := 0) (b := 31) (by decide +kernel)
theorem dX6_takeWord_120 : decode cX6_takeWord 120 = .ok (.iconst 0, 1) := oc_3 (by decide +kernel)
theorem dX6_takeWord_121 : decode cX6_takeWord 121 = .ok (.istore_n 3, 1) := oc_62 (by decide +kernel)
theorem dX6_takeWord_122 : decode cX6_takeWord 122 = .ok (.iinc 2 1, 3) := oc_132 (b := 1) (by decide +kernel)
theorem dX6_takeWord_125 : decode cX6_takeWord 125 = .ok (.goto 33, 3) := oc_167 (a := 0) (b := 33) (by decide +kernel)
theorem dX6_takeWord_92 : decode cX6_takeWord 92 = .ok (.iload_n 2, 1) := oc_28 (by decide +kernel)
theorem dX6_takeWord_93 : decode cX6_takeWord 93 = .ok (.aload_n 0, 1) := oc_42 (by decide +kernel)
theorem dX6_takeWord_94 : decode cX6_takeWord 94 = .ok (.getfield 19, 3) := oc_180 (a := 0) (b := 19) (by decide +kernel)
theorem dX6_takeWord_97 : decode cX6_takeWord 97 = .ok (.if_icmp .ge 23, 3) := oc_162 (a := 0) (b := 23) (by decide +kernel)
theorem dX6_takeWord_100 : decode cX6_takeWord 100 = .ok (.aload_n 0, 1) := oc_42 (by decide +kernel)
theorem dX6_takeWord_101 : decode cX6_takeWord 101 = .ok (.getfield 9, 3) := oc_180 (a := 0) (b := 9) (by decide +kernel)
theorem dX6_takeWord_104 : decode cX6_takeWord 104 = .ok (.iload_n 2, 1) := oc_28 (by decide +kernel)
theorem dX6_takeWord_105 : decode cX6_takeWord 105 = .ok (.iaload, 1) := oc_46 (by decide +kernel)
theorem dX6_takeWord_106 : decode cX6_takeWord 106 = .ok (.ldc 57, 2) := oc_18 (by decide +kernel)
theorem dX6_takeWord_108 : decode cX6_takeWord 108 = .ok (.iload 4, 2) := oc_21 (by decide +kernel)
theorem dX6_takeWord_110 : decode cX6_takeWord 110 = .ok (.invokevirtual 64, 3) := oc_182 (a := 0) (b := 64) (by decide +kernel)
theorem dX6_takeWord_113 : decode cX6_takeWord 113 = .ok (.if_icmp .ne 7, 3) := oc_160 (a := 0) (b := 7) (by decide +kernel)
theorem dX6_takeWord_116 : decode cX6_takeWord 116 = .ok (.iconst 1, 1) := oc_4 (by decide +kernel)
theorem dX6_takeWord_117 : decode cX6_takeWord 117 = .ok (.goto 4, 3) := oc_167 (a := 0) (b := 4) (by decide +kernel)
theorem dX6_takeWord_8 : decode cX6_takeWord 8 = .ok (.if_icmp .ge 31, 3) := oc_162 (a := 0) (b := 31) (by decide +kernel)
theorem dX6_takeWord_11 : decode cX6_takeWord 11 = .ok (.aload_n 0, 1) := oc_42 (by decide +kernel)
theorem dX6_takeWord_12 : decode cX6_takeWord 12 = .ok (.getfield 9, 3) := oc_180 (a := 0) (b := 9) (by decide +kernel)
theorem dX6_takeWord_15 : decode cX6_takeWord 15 = .ok (.aload_n 0, 1) := oc_42 (by decide +kernel)
theorem dX6_takeWord_16 : decode cX6_takeWord 16 = .ok (.getfield 19, 3) := oc_180 (a := 0) (b := 19) (by decide +kernel)
theorem dX6_takeWord_19 : decode cX6_takeWord 19 = .ok (.iaload, 1) := oc_46 (by decide +kernel)
theorem tw_678 : Cond.methodLink RX6 35 yX6_isLetter ∈ wsL_law := sg_29 _ (List.mem_of_getElem? (i := 6) rfl)
theorem tw_679 : Cond.static yX6_isLetter ∈ wsL_law := sg_29 _ (List.mem_of_getElem? (i := 7) rfl)
theorem tw_680 : Cond.code yX6_isLetter cX6_isLetter 1 (some .boolean) ∈ wsL_law := sg_29 _ (List.mem_of_getElem? (i := 8) rfl)
theorem dX6_takeWord_20 : decode cX6_takeWord 20 = .ok (.invokestatic 35, 3) := oc_184 (a := 0) (b := 35) (by decide +kernel)
theorem dX6_takeWord_23 : decode cX6_takeWord 23 = .ok (.ifCond .eq 16, 3) := oc_153 (a := 0) (b := 16) (by decide +kernel)
theorem dX6_takeWord_26 : decode cX6_takeWord 26 = .ok (.aload_n 0, 1) := oc_42 (by decide +kernel)
theorem dX6_takeWord_27 : decode cX6_takeWord 27 = .ok (.dup, 1) := oc_89 (by decide +kernel)
theorem dX6_takeWord_28 : decode cX6_takeWord 28 = .ok (.getfield 19, 3) := oc_180 (a := 0) (b := 19) (by decide +kernel)
theorem dX6_takeWord_31 : decode cX6_takeWord 31 = .ok (.iconst 1, 1) := oc_4 (by decide +kernel)
theorem dX6_takeWord_32 : decode cX6_takeWord 32 = .ok (.iadd, 1) := oc_96 (by decide +kernel)
theorem dX6_takeWord_33 : decode cX6_takeWord 33 = .ok (.putfield 19, 3) := oc_181 (a := 0) (b := 19) (by decide +kernel)
theorem dX6_takeWord_36 : decode cX6_takeWord 36 = .ok (.goto (-36), 3) := oc_167 (a := 255) (b := 220) (by decide +kernel)
theorem dX6_advance_0 : decode cX6_advance 0 = .ok (.aload_n 0, 1) := oc_42 (by decide +kernel)
theorem dX6_advance_1 : decode cX6_advance 1 = .ok (.getfield 19, 3) := oc_180 (a := 0) (b := 19) (by decide +kernel)
theorem dX6_advance_4 : decode cX6_advance 4 = .ok (.aload_n 0, 1) := oc_42 (by decide +kernel)
theorem dX6_advance_5 : decode cX6_advance 5 = .ok (.getfield 15, 3) := oc_180 (a := 0) (b := 15) (by decide +kernel)
theorem dX6_advance_52 : decode cX6_advance 52 = .ok (.aload_n 0, 1) := oc_42 (by decide +kernel)
theorem dX6_advance_53 : decode cX6_advance 53 = .ok (.aload_n 0, 1) := oc_42 (by decide +kernel)
theorem dX6_advance_54 : decode cX6_advance 54 = .ok (.getfield 19, 3) := oc_180 (a := 0) (b := 19) (by decide +kernel)
theorem dX6_advance_57 : decode cX6_advance 57 = .ok (.putfield 22, 3) := oc_181 (a := 0) (b := 22) (by decide +kernel)
theorem dX6_advance_60 : decode cX6_advance 60 = .ok (.aload_n 0, 1) := oc_42 (by decide +kernel)
theorem dX6_advance_61 : decode cX6_advance 61 = .ok (.getfield 19, 3) := oc_180 (a := 0) (b := 19) (by decide +kernel)
theorem dX6_advance_64 : decode cX6_advance 64 = .ok (.aload_n 0, 1) := oc_42 (by decide +kernel)
theorem dX6_advance_65 : decode cX6_advance 65 = .ok (.getfield 15, 3) := oc_180 (a := 0) (b := 15) (by decide +kernel)
theorem dX6_advance_68 : decode cX6_advance 68 = .ok (.if_icmp .lt 12, 3) := oc_161 (a := 0) (b := 12) (by decide +kernel)
theorem dX6_advance_80 : decode cX6_advance 80 = .ok (.aload_n 0, 1) := oc_42 (by decide +kernel)
theorem dX6_advance_81 : decode cX6_advance 81 = .ok (.getfield 9, 3) := oc_180 (a := 0) (b := 9) (by decide +kernel)
theorem dX6_advance_84 : decode cX6_advance 84 = .ok (.aload_n 0, 1) := oc_42 (by decide +kernel)
theorem dX6_advance_85 : decode cX6_advance 85 = .ok (.getfield 19, 3) := oc_180 (a := 0) (b := 19) (by decide +kernel)
theorem dX6_advance_88 : decode cX6_advance 88 = .ok (.iaload, 1) := oc_46 (by decide +kernel)
theorem dX6_advance_89 : decode cX6_advance 89 = .ok (.invokestatic 28, 3) := oc_184 (a := 0) (b := 28) (by decide +kernel)
theorem dX6_advance_92 : decode cX6_advance 92 = .ok (.ifCond .eq 10, 3) := oc_153 (a := 0) (b := 10) (by decide +kernel)
theorem dX6_advance_102 : decode cX6_advance 102 = .ok (.aload_n 0, 1) := oc_42 (by decide +kernel)
theorem dX6_advance_103 : decode cX6_advance 103 = .ok (.getfield 9, 3) := oc_180 (a := 0) (b := 9) (by decide +kernel)
theorem dX6_advance_106 : decode cX6_advance 106 = .ok (.aload_n 0, 1) := oc_42 (by decide +kernel)
theorem dX6_advance_107 : decode cX6_advance 107 = .ok (.getfield 19, 3) := oc_180 (a := 0) (b := 19) (by decide +kernel)
theorem dX6_advance_110 : decode cX6_advance 110 = .ok (.iaload, 1) := oc_46 (by decide +kernel)
theorem dX6_advance_111 : decode cX6_advance 111 = .ok (.invokestatic 35, 3) := oc_184 (a := 0) (b := 35) (by decide +kernel)
theorem dX6_advance_114 : decode cX6_advance 114 = .ok (.ifCond .eq 10, 3) := oc_153 (a := 0) (b := 10) (by decide +kernel)
theorem dX6_advance_124 : decode cX6_advance 124 = .ok (.aload_n 0, 1) := oc_42 (by decide +kernel)
theorem dX6_advance_125 : decode cX6_advance 125 = .ok (.aload_n 0, 1) := oc_42 (by decide +kernel)
theorem dX6_advance_126 : decode cX6_advance 126 = .ok (.getfield 9, 3) := oc_180 (a := 0) (b := 9) (by decide +kernel)
theorem dX6_advance_129 : decode cX6_advance 129 = .ok (.aload_n 0, 1) := oc_42 (by decide +kernel)
theorem dX6_advance_130 : decode cX6_advance 130 = .ok (.getfield 19, 3) := oc_180 (a := 0) (b := 19) (by decide +kernel)
theorem dX6_advance_133 : decode cX6_advance 133 = .ok (.iaload, 1) := oc_46 (by decide +kernel)
theorem tw_734 : Cond.methodLink RX6 41 yX6_signOf ∈ wsL_law := sg_31 _ (List.mem_of_getElem? (i := 14) rfl)
theorem tw_735 : Cond.static yX6_signOf ∈ wsL_law := sg_31 _ (List.mem_of_getElem? (i := 15) rfl)
theorem tw_736 : Cond.code yX6_signOf cX6_signOf 1 (some .int) ∈ wsL_law := sg_31 _ (List.mem_of_getElem? (i := 16) rfl)
theorem dX6_advance_134 : decode cX6_advance 134 = .ok (.invokestatic 41, 3) := oc_184 (a := 0) (b := 41) (by decide +kernel)
theorem dX6_advance_137 : decode cX6_advance 137 = .ok (.putfield 25, 3) := oc_181 (a := 0) (b := 25) (by decide +kernel)
theorem dX6_advance_140 : decode cX6_advance 140 = .ok (.aload_n 0, 1) := oc_42 (by decide +kernel)
theorem dX6_advance_141 : decode cX6_advance 141 = .ok (.dup, 1) := oc_89 (by decide +kernel)
theorem dX6_advance_142 : decode cX6_advance 142 = .ok (.getfield 19, 3) := oc_180 (a := 0) (b := 19) (by decide +kernel)
theorem dX6_advance_145 : decode cX6_advance 145 = .ok (.iconst 1, 1) := oc_4 (by decide +kernel)
theorem dX6_advance_146 : decode cX6_advance 146 = .ok (.iadd, 1) := oc_96 (by decide +kernel)
theorem dX6_advance_147 : decode cX6_advance 147 = .ok (.putfield 19, 3) := oc_181 (a := 0) (b := 19) (by decide +kernel)
theorem dX6_advance_150 : decode cX6_advance 150 = .ok (.aload_n 0, 1) := oc_42 (by decide +kernel)
theorem tw_737 : Cond.methodLink RX6 45 yX6_takeLonger ∈ wsL_law := sg_31 _ (List.mem_of_getElem? (i := 17) rfl)
theorem tw_738 : Cond.instanceMethod yX6_takeLonger ∈ wsL_law := sg_31 _ (List.mem_of_getElem? (i := 18) rfl)
theorem tw_739 : Cond.selects RX6 yX6_takeLonger yX6_takeLonger ∈ wsL_law := sg_31 _ (List.mem_of_getElem? (i := 19) rfl)
theorem tw_740 : Cond.code yX6_takeLonger cX6_takeLonger 2 none ∈ wsL_law := sg_31 _ (List.mem_of_getElem? (i := 20) rfl)
theorem dX6_advance_151 : decode cX6_advance 151 = .ok (.invokevirtual 45, 3) := oc_182 (a := 0) (b := 45) (by decide +kernel)
theorem dX6_advance_154 : decode cX6_advance 154 = .ok (.return_, 1) := oc_177 (by decide +kernel)
theorem dX6_advance_117 : decode cX6_advance 117 = .ok (.aload_n 0, 1) := oc_42 (by decide +kernel)
theorem tw_681 : Cond.methodLink RX6 38 yX6_takeWord ∈ wsL_law := sg_29 _ (List.mem_of_getElem? (i := 9) rfl)
theorem tw_682 : Cond.instanceMethod yX6_takeWord ∈ wsL_law := sg_29 _ (List.mem_of_getElem? (i := 10) rfl)
theorem tw_683 : Cond.selects RX6 yX6_takeWord yX6_takeWord ∈ wsL_law := sg_29 _ (List.mem_of_getElem? (i := 11) rfl)
theorem tw_684 : Cond.code yX6_takeWord cX6_takeWord 5 none ∈ wsL_law := sg_29 _ (List.mem_of_getElem? (i := 12) rfl)
theorem dX6_advance_118 : decode cX6_advance 118 = .ok (.invokevirtual 38, 3) := oc_182 (a := 0) (b := 38) (by decide +kernel)
theorem dX6_advance_121 : decode cX6_advance 121 = .ok (.goto 33, 3) := oc_167 (a := 0) (b := 33) (by decide +kernel)
theorem dX6_advance_95 : decode cX6_advance 95 = .ok (.aload_n 0, 1) := oc_42 (by decide +kernel)
theorem tw_672 : Cond.methodLink RX6 32 yX6_takeNumber ∈ wsL_law := sg_29 _ (List.mem_of_getElem? (i := 0) rfl)
theorem tw_673 : Cond.instanceMethod yX6_takeNumber ∈ wsL_law := sg_29 _ (List.mem_of_getElem? (i := 1) rfl)
theorem tw_674 : Cond.selects RX6 yX6_takeNumber yX6_takeNumber ∈ wsL_law := sg_29 _ (List.mem_of_getElem? (i := 2) rfl)
theorem tw_675 : Cond.code yX6_takeNumber cX6_takeNumber 1 none ∈ wsL_law := sg_29 _ (List.mem_of_getElem? (i := 3) rfl)
theorem dX6_advance_96 : decode cX6_advance 96 = .ok (.invokevirtual 32, 3) := oc_182 (a := 0) (b := 32) (by decide +kernel)
theorem dX6_advance_99 : decode cX6_advance 99 = .ok (.goto 55, 3) := oc_167 (a := 0) (b := 55) (by decide +kernel)
theorem dX6_advance_71 : decode cX6_advance 71 = .ok (.aload_n 0, 1) := oc_42 (by decide +kernel)
theorem dX6_advance_72 : decode cX6_advance 72 = .ok (.bipush 33, 2) := oc_16 (a := 33) (by decide +kernel)
theorem dX6_advance_74 : decode cX6_advance 74 = .ok (.putfield 25, 3) := oc_181 (a := 0) (b := 25) (by decide +kernel)
theorem dX6_advance_77 : decode cX6_advance 77 = .ok (.goto 77, 3) := oc_167 (a := 0) (b := 77) (by decide +kernel)
theorem dX6_advance_8 : decode cX6_advance 8 = .ok (.if_icmp .ge 44, 3) := oc_162 (a := 0) (b := 44) (by decide +kernel)
theorem dX6_advance_11 : decode cX6_advance 11 = .ok (.aload_n 0, 1) := oc_42 (by decide +kernel)
theorem dX6_advance_12 : decode cX6_advance 12 = .ok (.getfield 9, 3) := oc_180 (a := 0) (b := 9) (by decide +kernel)
theorem dX6_advance_15 : decode cX6_advance 15 = .ok (.aload_n 0, 1) := oc_42 (by decide +kernel)
theorem dX6_advance_16 : decode cX6_advance 16 = .ok (.getfield 19, 3) := oc_180 (a := 0) (b := 19) (by decide +kernel)
theorem dX6_advance_19 : decode cX6_advance 19 = .ok (.iaload, 1) := oc_46 (by decide +kernel)
theorem dX6_advance_20 : decode cX6_advance 20 = .ok (.bipush 32, 2) := oc_16 (a := 32) (by decide +kernel)
theorem dX6_advance_22 : decode cX6_advance 22 = .ok (.if_icmp .eq 17, 3) := oc_159 (a := 0) (b := 17) (by decide +kernel)
theorem dX6_advance_39 : decode cX6_advance 39 = .ok (.aload_n 0, 1) := oc_42 (by decide +kernel)
theorem dX6_advance_40 : decode cX6_advance 40 = .ok (.dup, 1) := oc_89 (by decide +kernel)
theorem dX6_advance_41 : decode cX6_advance 41 = .ok (.getfield 19, 3) := oc_180 (a := 0) (b := 19) (by decide +kernel)
theorem dX6_advance_44 : decode cX6_advance 44 = .ok (.iconst 1, 1) := oc_4 (by decide +kernel)
theorem dX6_advance_45 : decode cX6_advance 45 = .ok (.iadd, 1) := oc_96 (by decide +kernel)
theorem dX6_advance_46 : decode cX6_advance 46 = .ok (.putfield 19, 3) := oc_181 (a := 0) (b := 19) (by decide +kernel)
theorem dX6_advance_49 : decode cX6_advance 49 = .ok (.goto (-49), 3) := oc_167 (a := 255) (b := 207) (by decide +kernel)
theorem dX6_advance_25 : decode cX6_advance 25 = .ok (.aload_n 0, 1) := oc_42 (by decide +kernel)
theorem dX6_advance_26 : decode cX6_advance 26 = .ok (.getfield 9, 3) := oc_180 (a := 0) (b := 9) (by decide +kernel)
theorem dX6_advance_29 : decode cX6_advance 29 = .ok (.aload_n 0, 1) := oc_42 (by decide +kernel)
theorem dX6_advance_30 : decode cX6_advance 30 = .ok (.getfield 19, 3) := oc_180 (a := 0) (b := 19) (by decide +kernel)
theorem dX6_advance_33 : decode cX6_advance 33 = .ok (.iaload, 1) := oc_46 (by decide +kernel)
theorem dX6_advance_34 : decode cX6_advance 34 = .ok (.bipush 10, 2) := oc_16 (a := 10) (by decide +kernel)
theorem dX6_advance_36 : decode cX6_advance 36 = .ok (.if_icmp .ne 16, 3) := oc_160 (a := 0) (b := 16) (by decide +kernel)
/-! ===== rows of starts, clauses ===== -/
def FI (σ : pq_S) : Prop := ∀ w v q : Nat, w ∈ σ.1 → v ∈ σ.1 → σ.2.1 w = 8 → σ.2.1 v = 8 → σ.2.2.1 258 w = some q → σ.2.2.1 258 v = some q → w = v
theorem max_or (x y : Int32) : (if x < y then y else x).toInt = x.toInt ∨ (if x < y then y else x).toInt = y.toInt := by
  split
  · exact Or.inr rfl
  · exact Or.inl rfl
section FTS
variable {tg : Nat → Nat} {ri r0 r1 : Nat → Nat → Int32}
theorem ft_t (h : ∀ q, tg q = 258 → r0 q = ri q) (h1 : ∀ q, tg q = 258 → r1 q = r0 q) : ∀ q, tg q = 258 → r1 q = ri q := fun q hq => (h1 q hq).trans (h q hq)
theorem ft_w (h : ∀ q, tg q = 258 → r0 q = ri q) {a t : Nat} {f : Nat → Int32} (e : r1 = va_up r0 a f) (ht : tg a = t) (hn : t ≠ 258) : ∀ q, tg q = 258 → r1 q = ri q := fun q hq => by
  rw [e, va_up_ne _ _ (fun y => hn (by rw [← ht, ← y]; exact hq))]
  exact h q hq
end FTS
section GXW
variable {X : List Nat} {tg : Nat → Nat} {σ : pq_S} {I0 r0 I I1 ri r1 : Nat → Nat → Int32} {j0 rj : Nat → Nat → Int64} {rq : Nat → Nat → Option Nat}
theorem GX.wF (h : GX X tg σ I0 r0 j0 I ri rj rq) (hFI : FI σ) {w q : Nat} {i v : Int32} (hw : w ∈ σ.1) (hk : σ.2.1 w = 8) (hR : σ.2.2.1 258 w = some q) (e1 : r1 = va_up ri q (upd (ri q) i.toNatClampNeg v)) (hv : rg v 0 300) (hi : (I 256 w).toInt ≤ i.toInt) (hT : tg q = 258) : GX X tg σ I0 r0 j0 I r1 rj rq := by
  subst e1
  refine ⟨⟨h.1.1, fun p j => ?_, h.1.2.2.1, ?_⟩, h.2.1, fun t2 ht2 hx q2 hq2 => ?_, h.2.2.2⟩
  · by_cases hp : p = q
    · subst hp
      rw [va_up_self]
      unfold upd
      split
      · rw [hT]; exact hv
      · exact h.1.2.1 p j
    · rw [va_up_ne _ _ hp]
      exact h.1.2.1 p j
  · intro w2 hw2 hk2 z hz c hc
    by_cases hzq : z = q
    · subst hzq
      have e := hFI w2 w z hw2 hw hk2 hk hz hR
      subst e
      rw [va_up_self]
      unfold upd
      have hi2 : i.toInt.toNat = i.toNatClampNeg := rfl
      rw [if_neg (by omega)]
      exact h.1.2.2.2 w2 hw2 hk2 z hz c hc
    · rw [va_up_ne _ _ hzq]
      exact h.1.2.2.2 w2 hw2 hk2 z hz c hc
  · have hne : q2 ≠ q := fun y => by
      rw [y, hT] at hq2
      rw [← hq2] at ht2
      exact absurd ht2 (by decide)
    rw [va_up_ne _ _ hne]
    exact h.2.2.1 t2 ht2 hx q2 hq2
theorem GX.wC (h : GX X tg σ I0 r0 j0 I ri rj rq) {w q : Nat} {v : Int32} (hR : σ.2.2.1 258 w = some q) (e1 : I1 = pq_u I 256 w v) (hv : rg v 0 20) (hcl : v.toInt = (I 256 w).toInt + 1) (hq : (ri q (I 256 w).toNatClampNeg).toInt ≤ 299) (hX : 256 ∈ X) : GX X tg σ I0 r0 j0 I1 ri rj rq := by
  subst e1
  refine ⟨⟨fun g b => ?_, h.1.2.1, h.1.2.2.1, ?_⟩, fun g hg hx => ?_, h.2.2⟩
  · by_cases hgf : g = 256
    · subst hgf
      by_cases hb : b = w
      · subst hb
        rw [pq_us]
        exact hv
      · rw [pq_ua _ _ _ _ hb]
        exact h.1.1 256 b
    · rw [pq_uf _ _ _ hgf]
      exact h.1.1 g b
  · intro w2 hw2 hk2 z hz c hc
    by_cases hw : w2 = w
    · subst hw
      rw [pq_us] at hc
      have e : z = q := Option.some.inj (hz.symm.trans hR)
      subst e
      by_cases hcc : (c : Int) < (I 256 w2).toInt
      · exact h.1.2.2.2 w2 hw2 hk2 z hz c hcc
      · have e2 : (I 256 w2).toInt.toNat = (I 256 w2).toNatClampNeg := rfl
        have e3 : c = (I 256 w2).toNatClampNeg := by omega
        rw [e3]
        exact hq
    · rw [pq_ua _ _ _ _ hw] at hc
      exact h.1.2.2.2 w2 hw2 hk2 z hz c hc
  · have hgf : g ≠ 256 := fun q => hx (by rw [q]; exact hX)
    rw [pq_uf _ _ _ hgf]
    exact h.2.1 g hg hx
end GXW
set_option maxHeartbeats 4000000 in
set_option maxRecDepth 100000 in
theorem s_X6_isDigit_x (l : Launch) (D : va_G) (t : pq_T) (σ : pq_S) (I : Nat → Nat → Int32) (J : Nat → Nat → Int64) (ri : Nat → Nat → Int32) (rj : Nat → Nat → Int64) (rq : Nat → Nat → Option Nat) (sz : Nat) (tg : Nat → Nat) (hSH : SH σ tg) (hG0 : GS tg σ I ri rq) (a0 : Int32) : MetI l yX6_isDigit (wa yX6_isDigit cX6_isDigit 1 (some .boolean)) ({ frames := 0, cells := 0, slots := 0, locals := 0 }) [.int a0] D t σ (I, J, ri, rj, rq) sz 0 0 (fun (r : Int32) (u : pq_S × pq_M) => u = (σ, I, J, ri, rj, rq) ∧ ((r = 1 ∧ rg a0 48 57 ∧ (48 ≤ a0.toInt ∧ a0.toInt ≤ 57)) ∨ (r = 0 ∧ (a0.toInt < 48 ∨ 57 < a0.toInt)))) := by
  refine Met.ofW (cc := cX6_isDigit) (maxL := 1) (ret := (some .boolean)) (by decide) rfl ?_
  intro p e s m args below meth c s₁ B hml hv
  obtain ⟨rfl, hsz, hP, hK, hD0, hN⟩ := hv
  have hx := B.exec
  have hb := B.bytes
  have hr := B.returns
  have hts := atoms_spec (ws := (wa yX6_isDigit cX6_isDigit 1 (some .boolean))) B.pre
  have hown : s.vm.findClass RX6 = some m.cls := findClass_of_methodNamed B.named
  have hlocks := B.notSynchronized
  subst hsz
  have hD : va_D (pq_B t σ (I, J, ri, rj, rq) s.heap.size) (pq_P t σ (I, J, ri, rj, rq)) := hD0.self
  generalize hAe : pq_B t σ (I, J, ri, rj, rq) s.heap.size = A at hD ⊢
  have hA : ∀ q : Nat, s.heap.size ≤ q → A q := fun q h => by rw [← hAe]; exact Or.inr h
  have hS : va_S A s.heap s.heap [] := va_S.rf
  have hG : GX [] tg σ I ri rj I ri rj rq := ⟨hG0, fun _ _ _ => rfl, fun _ _ _ _ _ => rfl, fun _ _ _ _ _ => rfl⟩
  have hl := lv_entry ([.int a0]) (n := 1) (Nat.le_of_ble_eq_true rfl)
  rw [lg_entry_eq]
  generalize (lg_sl ([.int a0]) ++ List.replicate (1 - (lg_sl ([.int a0])).length) Slot.unset).toArray = ls at hl ⊢
  have hl : lv_has ls 1 [(0, .int a0)] := hl
  refine q_gen (fun Q hQ => ?_)
  have go : ∀ (H : Heap) (locs : List Loc) (ls : Array Slot), va_P D vwCl (pq_P t σ (I, J, ri, rj, rq)) H → va_D A (pq_P t σ (I, J, ri, rj, rq)) → va_S A s.heap H locs → lv_has ls 1 [(0, .int a0)] → W p l e ({ frames := 0, cells := 0, slots := 0, locals := 0 } : Room) s m (List.toArray ([.int a0] : List Value)) below meth c H locs 0 0 Q (F0 m 0 ls []) := by
    intro H locs ls hP hD hS hl
    refine lv_iload_n hx hb dX6_isDigit_0 rfl (lv_at hl 0 rfl) ?_
    refine lv_bipush (v := 48) hx hb dX6_isDigit_1 (by decide) ?_
    refine lv_icmp_lt (tgt := 16) hx hb dX6_isDigit_3 (by decide) (fun c_1 => ?_) (fun c_1 => ?_)
    · have tc_2 : (a0).toInt < 48 := Int32.lt_iff_toInt_lt.mp c_1
      have h_3 : rg a0 (-2147483648) 47 := rg_lt1 c_1 (rg_full _) (rg_k (48 : Int32) 48 rfl) (by decide)
      have uh_3 := h_3.1
      have vh_3 := h_3.2
      refine lv_iconst (v := 0) hx hb dX6_isDigit_16 (by decide) ?_
      subst hQ
      exact W.zret (v := 0) hx hb hr (by decide) (fun t1 ht hW => ⟨⟨0, (σ, I, J, ri, rj, rq), rfl, ⟨rfl, (Or.inr ⟨rfl, (by omega)⟩)⟩, by rw [ht]; exact hP, va_K.moved hW.alike hK, hD⟩, hS.F ht⟩) hS.2.2 dX6_isDigit_17
    · have tc_4 : 48 ≤ (a0).toInt := Int32.le_iff_toInt_le.mp (nlt c_1)
      have h_5 : rg a0 48 2147483647 := rg_le2 (nlt c_1) (rg_k (48 : Int32) 48 rfl) (rg_full _) (by decide)
      have uh_5 := h_5.1
      have vh_5 := h_5.2
      refine lv_iload_n hx hb dX6_isDigit_6 rfl (lv_at hl 0 rfl) ?_
      refine lv_bipush (v := 57) hx hb dX6_isDigit_7 (by decide) ?_
      refine lv_icmp_gt (tgt := 16) hx hb dX6_isDigit_9 (by decide) (fun c_6 => ?_) (fun c_6 => ?_)
      · have tc_7 : 57 < (a0).toInt := Int32.lt_iff_toInt_lt.mp c_6
        have h_8 : rg a0 58 2147483647 := rg_lt2 c_6 (rg_k (57 : Int32) 57 rfl) h_5 (by decide)
        have uh_8 := h_8.1
        have vh_8 := h_8.2
        refine lv_iconst (v := 0) hx hb dX6_isDigit_16 (by decide) ?_
        subst hQ
        exact W.zret (v := 0) hx hb hr (by decide) (fun t1 ht hW => ⟨⟨0, (σ, I, J, ri, rj, rq), rfl, ⟨rfl, (Or.inr ⟨rfl, (by omega)⟩)⟩, by rw [ht]; exact hP, va_K.moved hW.alike hK, hD⟩, hS.F ht⟩) hS.2.2 dX6_isDigit_17
      · have tc_9 : (a0).toInt ≤ 57 := Int32.le_iff_toInt_le.mp (nlt c_6)
        have h_10 : rg a0 48 57 := rg_le1 (nlt c_6) h_5 (rg_k (57 : Int32) 57 rfl) (by decide)
        have uh_10 := h_10.1
        have vh_10 := h_10.2
        refine lv_iconst (v := 1) hx hb dX6_isDigit_12 (by decide) ?_
        refine lv_goto (tgt := 17) hx hb dX6_isDigit_13 (by decide) ?_
        subst hQ
        exact W.zret (v := 1) hx hb hr (by decide) (fun t1 ht hW => ⟨⟨1, (σ, I, J, ri, rj, rq), rfl, ⟨rfl, (Or.inl ⟨rfl, (rg_w h_10 (by decide)), (by omega)⟩)⟩, by rw [ht]; exact hP, va_K.moved hW.alike hK, hD⟩, hS.F ht⟩) hS.2.2 dX6_isDigit_17
  exact go _ _ _ hP hD hS hl

set_option maxHeartbeats 4000000 in
set_option maxRecDepth 100000 in
theorem s_X6_isLetter_x (l : Launch) (D : va_G) (t : pq_T) (σ : pq_S) (I : Nat → Nat → Int32) (J : Nat → Nat → Int64) (ri : Nat → Nat → Int32) (rj : Nat → Nat → Int64) (rq : Nat → Nat → Option Nat) (sz : Nat) (tg : Nat → Nat) (hSH : SH σ tg) (hG0 : GS tg σ I ri rq) (a0 : Int32) : MetI l yX6_isLetter (wa yX6_isLetter cX6_isLetter 1 (some .boolean)) ({ frames := 0, cells := 0, slots := 0, locals := 0 }) [.int a0] D t σ (I, J, ri, rj, rq) sz 0 0 (fun (r : Int32) (u : pq_S × pq_M) => u = (σ, I, J, ri, rj, rq) ∧ ((r = 1 ∧ rg a0 65 122 ∧ ((65 ≤ a0.toInt ∧ a0.toInt ≤ 90 ∨ 97 ≤ a0.toInt ∧ a0.toInt ≤ 122))) ∨ (r = 0 ∧ (¬ (65 ≤ a0.toInt ∧ a0.toInt ≤ 90 ∨ 97 ≤ a0.toInt ∧ a0.toInt ≤ 122))))) := by
  refine Met.ofW (cc := cX6_isLetter) (maxL := 1) (ret := (some .boolean)) (by decide) rfl ?_
  intro p e s m args below meth c s₁ B hml hv
  obtain ⟨rfl, hsz, hP, hK, hD0, hN⟩ := hv
  have hx := B.exec
  have hb := B.bytes
  have hr := B.returns
  have hts := atoms_spec (ws := (wa yX6_isLetter cX6_isLetter 1 (some .boolean))) B.pre
  have hown : s.vm.findClass RX6 = some m.cls := findClass_of_methodNamed B.named
  have hlocks := B.notSynchronized
  subst hsz
  have hD : va_D (pq_B t σ (I, J, ri, rj, rq) s.heap.size) (pq_P t σ (I, J, ri, rj, rq)) := hD0.self
  generalize hAe : pq_B t σ (I, J, ri, rj, rq) s.heap.size = A at hD ⊢
  have hA : ∀ q : Nat, s.heap.size ≤ q → A q := fun q h => by rw [← hAe]; exact Or.inr h
  have hS : va_S A s.heap s.heap [] := va_S.rf
  have hG : GX [] tg σ I ri rj I ri rj rq := ⟨hG0, fun _ _ _ => rfl, fun _ _ _ _ _ => rfl, fun _ _ _ _ _ => rfl⟩
  have hl := lv_entry ([.int a0]) (n := 1) (Nat.le_of_ble_eq_true rfl)
  rw [lg_entry_eq]
  generalize (lg_sl ([.int a0]) ++ List.replicate (1 - (lg_sl ([.int a0])).length) Slot.unset).toArray = ls at hl ⊢
  have hl : lv_has ls 1 [(0, .int a0)] := hl
  refine q_gen (fun Q hQ => ?_)
  have go : ∀ (H : Heap) (locs : List Loc) (ls : Array Slot), va_P D vwCl (pq_P t σ (I, J, ri, rj, rq)) H → va_D A (pq_P t σ (I, J, ri, rj, rq)) → va_S A s.heap H locs → lv_has ls 1 [(0, .int a0)] → W p l e ({ frames := 0, cells := 0, slots := 0, locals := 0 } : Room) s m (List.toArray ([.int a0] : List Value)) below meth c H locs 0 0 Q (F0 m 0 ls []) := by
    intro H locs ls hP hD hS hl
    refine lv_iload_n hx hb dX6_isLetter_0 rfl (lv_at hl 0 rfl) ?_
    refine lv_bipush (v := 97) hx hb dX6_isLetter_1 (by decide) ?_
    refine lv_icmp_lt (tgt := 12) hx hb dX6_isLetter_3 (by decide) (fun c_1 => ?_) (fun c_1 => ?_)
    · have tc_2 : (a0).toInt < 97 := Int32.lt_iff_toInt_lt.mp c_1
      have h_3 : rg a0 (-2147483648) 96 := rg_lt1 c_1 (rg_full _) (rg_k (97 : Int32) 97 rfl) (by decide)
      have uh_3 := h_3.1
      have vh_3 := h_3.2
      refine lv_iload_n hx hb dX6_isLetter_12 rfl (lv_at hl 0 rfl) ?_
      refine lv_bipush (v := 65) hx hb dX6_isLetter_13 (by decide) ?_
      refine lv_icmp_lt (tgt := 28) hx hb dX6_isLetter_15 (by decide) (fun c_4 => ?_) (fun c_4 => ?_)
      · have tc_5 : (a0).toInt < 65 := Int32.lt_iff_toInt_lt.mp c_4
        have h_6 : rg a0 (-2147483648) 64 := rg_lt1 c_4 h_3 (rg_k (65 : Int32) 65 rfl) (by decide)
        have uh_6 := h_6.1
        have vh_6 := h_6.2
        refine lv_iconst (v := 0) hx hb dX6_isLetter_28 (by decide) ?_
        subst hQ
        exact W.zret (v := 0) hx hb hr (by decide) (fun t1 ht hW => ⟨⟨0, (σ, I, J, ri, rj, rq), rfl, ⟨rfl, (Or.inr ⟨rfl, (by omega)⟩)⟩, by rw [ht]; exact hP, va_K.moved hW.alike hK, hD⟩, hS.F ht⟩) hS.2.2 dX6_isLetter_29
      · have tc_7 : 65 ≤ (a0).toInt := Int32.le_iff_toInt_le.mp (nlt c_4)
        have h_8 : rg a0 65 96 := rg_le2 (nlt c_4) (rg_k (65 : Int32) 65 rfl) h_3 (by decide)
        have uh_8 := h_8.1
        have vh_8 := h_8.2
        refine lv_iload_n hx hb dX6_isLetter_18 rfl (lv_at hl 0 rfl) ?_
        refine lv_bipush (v := 90) hx hb dX6_isLetter_19 (by decide) ?_
        refine lv_icmp_gt (tgt := 28) hx hb dX6_isLetter_21 (by decide) (fun c_9 => ?_) (fun c_9 => ?_)
        · have tc_10 : 90 < (a0).toInt := Int32.lt_iff_toInt_lt.mp c_9
          have h_11 : rg a0 91 96 := rg_lt2 c_9 (rg_k (90 : Int32) 90 rfl) h_8 (by decide)
          have uh_11 := h_11.1
          have vh_11 := h_11.2
          refine lv_iconst (v := 0) hx hb dX6_isLetter_28 (by decide) ?_
          subst hQ
          exact W.zret (v := 0) hx hb hr (by decide) (fun t1 ht hW => ⟨⟨0, (σ, I, J, ri, rj, rq), rfl, ⟨rfl, (Or.inr ⟨rfl, (by omega)⟩)⟩, by rw [ht]; exact hP, va_K.moved hW.alike hK, hD⟩, hS.F ht⟩) hS.2.2 dX6_isLetter_29
        · have tc_12 : (a0).toInt ≤ 90 := Int32.le_iff_toInt_le.mp (nlt c_9)
          have h_13 : rg a0 65 90 := rg_le1 (nlt c_9) h_8 (rg_k (90 : Int32) 90 rfl) (by decide)
          have uh_13 := h_13.1
          have vh_13 := h_13.2
          refine lv_iconst (v := 1) hx hb dX6_isLetter_24 (by decide) ?_
          refine lv_goto (tgt := 29) hx hb dX6_isLetter_25 (by decide) ?_
          subst hQ
          exact W.zret (v := 1) hx hb hr (by decide) (fun t1 ht hW => ⟨⟨1, (σ, I, J, ri, rj, rq), rfl, ⟨rfl, (Or.inl ⟨rfl, (rg_w h_13 (by decide)), (by omega)⟩)⟩, by rw [ht]; exact hP, va_K.moved hW.alike hK, hD⟩, hS.F ht⟩) hS.2.2 dX6_isLetter_29
    · have tc_14 : 97 ≤ (a0).toInt := Int32.le_iff_toInt_le.mp (nlt c_1)
      have h_15 : rg a0 97 2147483647 := rg_le2 (nlt c_1) (rg_k (97 : Int32) 97 rfl) (rg_full _) (by decide)
      have uh_15 := h_15.1
      have vh_15 := h_15.2
      refine lv_iload_n hx hb dX6_isLetter_6 rfl (lv_at hl 0 rfl) ?_
      refine lv_bipush (v := 122) hx hb dX6_isLetter_7 (by decide) ?_
      refine lv_icmp_le (tgt := 24) hx hb dX6_isLetter_9 (by decide) (fun c_16 => ?_) (fun c_16 => ?_)
      · have tc_17 : (a0).toInt ≤ 122 := Int32.le_iff_toInt_le.mp c_16
        have h_18 : rg a0 97 122 := rg_le1 c_16 h_15 (rg_k (122 : Int32) 122 rfl) (by decide)
        have uh_18 := h_18.1
        have vh_18 := h_18.2
        refine lv_iconst (v := 1) hx hb dX6_isLetter_24 (by decide) ?_
        refine lv_goto (tgt := 29) hx hb dX6_isLetter_25 (by decide) ?_
        subst hQ
        exact W.zret (v := 1) hx hb hr (by decide) (fun t1 ht hW => ⟨⟨1, (σ, I, J, ri, rj, rq), rfl, ⟨rfl, (Or.inl ⟨rfl, (rg_w h_18 (by decide)), (by omega)⟩)⟩, by rw [ht]; exact hP, va_K.moved hW.alike hK, hD⟩, hS.F ht⟩) hS.2.2 dX6_isLetter_29
      · have tc_19 : 122 < (a0).toInt := Int32.lt_iff_toInt_lt.mp (nle c_16)
        have h_20 : rg a0 123 2147483647 := rg_lt2 (nle c_16) (rg_k (122 : Int32) 122 rfl) h_15 (by decide)
        have uh_20 := h_20.1
        have vh_20 := h_20.2
        refine lv_iload_n hx hb dX6_isLetter_12 rfl (lv_at hl 0 rfl) ?_
        refine lv_bipush (v := 65) hx hb dX6_isLetter_13 (by decide) ?_
        refine lv_icmp_lt (tgt := 28) hx hb dX6_isLetter_15 (by decide) (fun c_21 => ?_) (fun c_21 => ?_)
        · have tc_22 : (a0).toInt < 65 := Int32.lt_iff_toInt_lt.mp c_21
          exact (rg_empty (rg_lt1 c_21 h_20 (rg_k (65 : Int32) 65 rfl) (lo := 123) (hi := 64) (by decide)) (by decide)).elim
        · have tc_23 : 65 ≤ (a0).toInt := Int32.le_iff_toInt_le.mp (nlt c_21)
          refine lv_iload_n hx hb dX6_isLetter_18 rfl (lv_at hl 0 rfl) ?_
          refine lv_bipush (v := 90) hx hb dX6_isLetter_19 (by decide) ?_
          refine lv_icmp_gt (tgt := 28) hx hb dX6_isLetter_21 (by decide) (fun c_24 => ?_) (fun c_24 => ?_)
          · have tc_25 : 90 < (a0).toInt := Int32.lt_iff_toInt_lt.mp c_24
            refine lv_iconst (v := 0) hx hb dX6_isLetter_28 (by decide) ?_
            subst hQ
            exact W.zret (v := 0) hx hb hr (by decide) (fun t1 ht hW => ⟨⟨0, (σ, I, J, ri, rj, rq), rfl, ⟨rfl, (Or.inr ⟨rfl, (by omega)⟩)⟩, by rw [ht]; exact hP, va_K.moved hW.alike hK, hD⟩, hS.F ht⟩) hS.2.2 dX6_isLetter_29
          · have tc_26 : (a0).toInt ≤ 90 := Int32.le_iff_toInt_le.mp (nlt c_24)
            exact (rg_empty (rg_le1 (nlt c_24) h_20 (rg_k (90 : Int32) 90 rfl) (lo := 123) (hi := 90) (by decide)) (by decide)).elim
  exact go _ _ _ hP hD hS hl

set_option maxHeartbeats 4000000 in
set_option maxRecDepth 100000 in
theorem s_X6_takeNumber_x (l : Launch) (D : va_G) (t : pq_T) (σ : pq_S) (I : Nat → Nat → Int32) (J : Nat → Nat → Int64) (ri : Nat → Nat → Int32) (rj : Nat → Nat → Int64) (rq : Nat → Nat → Option Nat) (sz : Nat) (tg : Nat → Nat) (hSH : SH σ tg) (hG0 : GS tg σ I ri rq) (this : Nat) (hL_this : this ∈ σ.1) (hK_this : σ.2.1 this = 6) (this_tape : Nat) (hR_this_tape : σ.2.2.1 192 this = some this_tape) (hL_this_tape : this_tape ∈ σ.1) (hK_this_tape : σ.2.1 this_tape = 13) (hN_this_tape : σ.2.2.2 this_tape = 300) (hT_this_tape : tg this_tape = 192) (hat : (I 197 this).toInt < (I 193 this).toInt) (hdg : 48 ≤ (ri this_tape (I 197 this).toNatClampNeg).toInt ∧ (ri this_tape (I 197 this).toNatClampNeg).toInt ≤ 57) : MetV l yX6_takeNumber (wa yX6_takeNumber cX6_takeNumber 1 none) ({ frames := 1, cells := 0, slots := 0, locals := 40 }) [.ref this] D t σ (I, J, ri, rj, rq) sz 0 0 (fun (u : pq_S × pq_M) => ∃ I' : Nat → Nat → Int32, u = (σ, I', J, ri, rj, rq) ∧ GX [194, 197] tg σ I ri rj I' ri rj rq ∧ ((I 197 this).toInt + 1 ≤ (I' 197 this).toInt)) := by
  refine Met.ofW (cc := cX6_takeNumber) (maxL := 1) (ret := none) (by decide) rfl ?_
  intro p e s m args below meth c s₁ B hml hv
  obtain ⟨rfl, hsz, hP, hK, hD0, hN⟩ := hv
  have hx := B.exec
  have hb := B.bytes
  have hr := B.returns
  have hts := atoms_spec (ws := (wa yX6_takeNumber cX6_takeNumber 1 none)) B.pre
  have hown : s.vm.findClass RX6 = some m.cls := findClass_of_methodNamed B.named
  have hlocks := B.notSynchronized
  subst hsz
  have hD : va_D (pq_B t σ (I, J, ri, rj, rq) s.heap.size) (pq_P t σ (I, J, ri, rj, rq)) := hD0.self
  generalize hAe : pq_B t σ (I, J, ri, rj, rq) s.heap.size = A at hD ⊢
  have hA : ∀ q : Nat, s.heap.size ≤ q → A q := fun q h => by rw [← hAe]; exact Or.inr h
  have hS : va_S A s.heap s.heap [] := va_S.rf
  have hG : GX [194, 197] tg σ I ri rj I ri rj rq := ⟨hG0, fun _ _ _ => rfl, fun _ _ _ _ _ => rfl, fun _ _ _ _ _ => rfl⟩
  have hl := lv_entry ([.ref this]) (n := 1) (Nat.le_of_ble_eq_true rfl)
  rw [lg_entry_eq]
  generalize (lg_sl ([.ref this]) ++ List.replicate (1 - (lg_sl ([.ref this])).length) Slot.unset).toArray = ls at hl ⊢
  have hl : lv_has ls 1 [(0, .ref this)] := hl
  refine q_gen (fun Q hQ => ?_)
  have go : ∀ (H : Heap) (locs : List Loc) (ls : Array Slot), va_P D vwCl (pq_P t σ (I, J, ri, rj, rq)) H → va_D A (pq_P t σ (I, J, ri, rj, rq)) → va_S A s.heap H locs → lv_has ls 1 [(0, .ref this)] → W p l e ({ frames := 1, cells := 0, slots := 0, locals := 40 } : Room) s m (List.toArray ([.ref this] : List Value)) below meth c H locs 0 0 Q (F0 m 0 ls []) := by
    intro H locs ls hP hD hS hl
    refine lv_aload_n hx hb dX6_takeNumber_0 rfl (lv_at hl 0 rfl) ?_
    refine lv_bipush (v := 18) hx hb dX6_takeNumber_1 (by decide) ?_
    refine pp_i (v := 18) (ty := .int) (C := RX6) (T := TX6) (N := 6) hx hb hts (tw_i inlX6) tyX6 tyX6_ok nmX6 hown hK hP hD hS hL_this hK_this (by decide) rfl 2 194 (by decide) (hts _ (tw_c tw_668)) rfl (tyX6_ok 2 (by decide)) rfl rfl (Nat.le_of_ble_eq_true rfl) (ps_194 _ _ _ _ _) dX6_takeNumber_3 (fun I_1 H locs eI_1 hP hD hS => ?_)
    have hG := GX.wI hG 194 rfl eI_1 (rg_w (rg_k (18 : Int32) 18 rfl) (by decide)) (by decide)
    have tt_2 : (I_1 197 this).toInt = (I 197 this).toInt := by rw [eI_1, pq_uf _ _ _ (by decide)]
    have tt_3 : (I_1 193 this).toInt = (I 193 this).toInt := by rw [eI_1, pq_uf _ _ _ (by decide)]
    have tt_4 : (I_1 194 this).toInt = 18 := by rw [eI_1, pq_us]; rfl
    refine lv_aload_n hx hb dX6_takeNumber_6 rfl (lv_at hl 0 rfl) ?_
    refine lv_iconst (v := 0) hx hb dX6_takeNumber_7 (by decide) ?_
    refine pp_i (v := 0) (ty := .int) (C := RX6) (T := TX6) (N := 6) hx hb hts (tw_i inlX6) tyX6 tyX6_ok nmX6 hown hK hP hD hS hL_this hK_this (by decide) rfl 4 196 (by decide) (hts _ (tw_c tw_676)) rfl (tyX6_ok 4 (by decide)) rfl rfl (Nat.le_of_ble_eq_true rfl) (ps_196 _ _ _ _ _) dX6_takeNumber_8 (fun I_5 H locs eI_5 hP hD hS => ?_)
    have hG := GX.wI hG 196 rfl eI_5 (rg_w (rg_k (0 : Int32) 0 rfl) (by decide)) (by decide)
    have tt_6 : (I_5 197 this).toInt = (I_1 197 this).toInt := by rw [eI_5, pq_uf _ _ _ (by decide)]
    have tt_7 : (I_5 193 this).toInt = (I_1 193 this).toInt := by rw [eI_5, pq_uf _ _ _ (by decide)]
    have tt_8 : (I_5 194 this).toInt = (I_1 194 this).toInt := by rw [eI_5, pq_uf _ _ _ (by decide)]
    have L_178 : ∀ (n_177 : Nat) (I_135 : Nat → Nat → Int32) (H : Heap) (locs : List Loc) (ls : Array Slot), ((I 197 this).toInt ≤ (I_135 197 this).toInt ∧ (I_135 193 this).toInt = (I 193 this).toInt) → (300 - (I_135 197 this).toInt).toNat < n_177 → GX [194, 197] tg σ I ri rj I_135 ri rj rq → va_P D vwCl (pq_P t σ (I_135, J, ri, rj, rq)) H → va_D A (pq_P t σ (I_135, J, ri, rj, rq)) → va_S A s.heap H locs → lv_has ls 1 [(0, .ref this)] → W p l e ({ frames := 1, cells := 0, slots := 0, locals := 40 } : Room) s m (List.toArray ([.ref this] : List Value)) below meth c H locs 0 0 Q (F0 m 11 ls []) := by
      intro n_177
      induction n_177 with
      | zero => intro I_135 H locs ls hrel_181 hm_176 hG hP hD hS hl; exact absurd hm_176 (Nat.not_lt_zero _)
      | succ n_177 ih_179 =>
        intro I_135 H locs ls hrel_181 hm_176 hG hP hD hS hl
        refine lv_aload_n hx hb dX6_takeNumber_11 rfl (lv_at hl 0 rfl) ?_
        refine pg_f (v := .int (I_135 197 this)) (C := RX6) (T := TX6) (N := 6) hx hb hts (tw_i inlX6) hown hK hP hL_this hK_this (by decide) rfl 5 (by decide) (hts _ (tw_c tw_662)) rfl dX6_takeNumber_12 ?_
        have h_182 : rg (I_135 197 this) 0 300 := GX.rI hG 197 rfl
        have uh_182 := h_182.1
        have vh_182 := h_182.2
        refine lv_aload_n hx hb dX6_takeNumber_15 rfl (lv_at hl 0 rfl) ?_
        refine pg_f (v := .int (I_135 193 this)) (C := RX6) (T := TX6) (N := 6) hx hb hts (tw_i inlX6) hown hK hP hL_this hK_this (by decide) rfl 1 (by decide) (hts _ (tw_c tw_626)) rfl dX6_takeNumber_16 ?_
        have h_183 : rg (I_135 193 this) 0 300 := GX.rI hG 193 rfl
        have uh_183 := h_183.1
        have vh_183 := h_183.2
        refine lv_icmp_ge (tgt := 80) hx hb dX6_takeNumber_19 (by decide) (fun c_184 => ?_) (fun c_184 => ?_)
        · have tc_185 : (I_135 193 this).toInt ≤ (I_135 197 this).toInt := Int32.le_iff_toInt_le.mp c_184
          subst hQ
          exact W.vret hx hb hr (fun t1 ht hW => ⟨⟨(σ, I_135, J, ri, rj, rq), rfl, ⟨I_135, rfl, hG, (by omega)⟩, by rw [ht]; exact hP, va_K.moved hW.alike hK, hD⟩, hS.F ht⟩) hS.2.2 dX6_takeNumber_80
        · have tc_186 : (I_135 197 this).toInt < (I_135 193 this).toInt := Int32.lt_iff_toInt_lt.mp (nle c_184)
          have h_187 : rg (I_135 197 this) 0 299 := rg_lt1 (nle c_184) h_182 h_183 (by decide)
          have uh_187 := h_187.1
          have vh_187 := h_187.2
          have h_188 : rg (I_135 193 this) 1 300 := rg_lt2 (nle c_184) h_182 h_183 (by decide)
          have uh_188 := h_188.1
          have vh_188 := h_188.2
          refine lv_aload_n hx hb dX6_takeNumber_22 rfl (lv_at hl 0 rfl) ?_
          refine pg_f (v := .ref this_tape) (C := RX6) (T := TX6) (N := 6) hx hb hts (tw_i inlX6) hown hK hP hL_this hK_this (by decide) rfl 0 (by decide) (hts _ (tw_c tw_165)) (pq_hv rfl hR_this_tape) dX6_takeNumber_23 ?_
          refine lv_aload_n hx hb dX6_takeNumber_26 rfl (lv_at hl 0 rfl) ?_
          refine pg_f (v := .int (I_135 197 this)) (C := RX6) (T := TX6) (N := 6) hx hb hts (tw_i inlX6) hown hK hP hL_this hK_this (by decide) rfl 5 (by decide) (hts _ (tw_c tw_662)) rfl dX6_takeNumber_27 ?_
          refine pl_i hx hb hK hP hL_this_tape hK_this_tape hN_this_tape (rg_in h_187 (by decide)) dX6_takeNumber_30 ?_
          refine lv_topi (fun x_189 ex_189 => ?_)
          have tt_190 : (I_135 197 this).toInt = (I 197 this).toInt → (x_189).toInt = (ri this_tape (I 197 this).toNatClampNeg).toInt := fun q => by rw [ex_189, Int32.toInt_inj.mp q]
          refine pk_i (va_runS (As := [.int x_189]) (rest := []) ⟨hx, hb, hml, hown, hts⟩ (s_X6_isDigit_x l D t σ I_135 J ri rj rq H.size tg hSH hG.1 x_189) (va_cwS 1 hts (tw_S tw_669 tw_670 tw_153 tw_671) rfl rfl rfl cd_yX6_isDigit_1 ⟨Nat.le_of_ble_eq_true rfl, Nat.le_of_ble_eq_true rfl⟩) ⟨pq_blind, pq_pre hK hN hP hD⟩ rfl rfl hl.1 rfl (lv_room (Nat.le_of_ble_eq_true rfl)) dX6_takeNumber_31 ⟨Nat.le_of_ble_eq_true rfl, Nat.le_of_ble_eq_true rfl⟩) hD hS hA (fun x_191 σ1 μ1 H locs hw_192 hP hD hS => ?_)
          obtain ⟨hu_193, hr_195⟩ := hw_192
          obtain ⟨hu_193a, hu_193b⟩ := Prod.mk.inj hu_193
          rw [hu_193a, hu_193b] at hP hD
          have h_196 : rg x_191 0 1 := by rcases hr_195 with ⟨q, -⟩ | ⟨q, -⟩ <;> rw [q] <;> exact ⟨by decide, by decide⟩
          have uh_196 := h_196.1
          have vh_196 := h_196.2
          refine lv_if_eq (tgt := 80) hx hb dX6_takeNumber_34 (by decide) (fun c_197 => ?_) (fun c_197 => ?_)
          · have f_198 := (hr_195.resolve_left (fun q => absurd (q.1.symm.trans c_197) (by decide))).2
            have tc_199 : (x_191).toInt = 0 := congrArg Int32.toInt c_197
            have h_200 : rg x_191 0 0 := rg_and h_196 (rg_of_eq c_197 (rg_k (0 : Int32) 0 rfl)) (by decide)
            have uh_200 := h_200.1
            have vh_200 := h_200.2
            subst hQ
            exact W.vret hx hb hr (fun t1 ht hW => ⟨⟨(σ, I_135, J, ri, rj, rq), rfl, ⟨I_135, rfl, hG, (by omega)⟩, by rw [ht]; exact hP, va_K.moved hW.alike hK, hD⟩, hS.F ht⟩) hS.2.2 dX6_takeNumber_80
          · obtain ⟨f_201, f_202⟩ := (hr_195.resolve_right (fun q => c_197 q.1)).2
            have uf_201 := f_201.1
            have vf_201 := f_201.2
            have tc_203 : (x_191).toInt ≠ 0 := fun q => c_197 (Int32.toInt_inj.mp q)
            have h_204 : rg x_191 1 1 := rg_ne c_197 h_196 0 rfl (by decide)
            have uh_204 := h_204.1
            have vh_204 := h_204.2
            refine lv_aload_n hx hb dX6_takeNumber_37 rfl (lv_at hl 0 rfl) ?_
            refine lv_sipush (v := 10000) hx hb dX6_takeNumber_38 (by decide) ?_
            refine lv_aload_n hx hb dX6_takeNumber_41 rfl (lv_at hl 0 rfl) ?_
            refine pg_f (v := .int (I_135 196 this)) (C := RX6) (T := TX6) (N := 6) hx hb hts (tw_i inlX6) hown hK hP hL_this hK_this (by decide) rfl 4 (by decide) (hts _ (tw_c tw_676)) rfl dX6_takeNumber_42 ?_
            refine lv_bipush (v := 10) hx hb dX6_takeNumber_45 (by decide) ?_
            refine lv_imul hx hb dX6_takeNumber_47 ?_
            refine lv_topi (fun x_205 ex_205 => ?_)
            refine lv_aload_n hx hb dX6_takeNumber_48 rfl (lv_at hl 0 rfl) ?_
            refine pg_f (v := .ref this_tape) (C := RX6) (T := TX6) (N := 6) hx hb hts (tw_i inlX6) hown hK hP hL_this hK_this (by decide) rfl 0 (by decide) (hts _ (tw_c tw_165)) (pq_hv rfl hR_this_tape) dX6_takeNumber_49 ?_
            refine lv_aload_n hx hb dX6_takeNumber_52 rfl (lv_at hl 0 rfl) ?_
            refine pg_f (v := .int (I_135 197 this)) (C := RX6) (T := TX6) (N := 6) hx hb hts (tw_i inlX6) hown hK hP hL_this hK_this (by decide) rfl 5 (by decide) (hts _ (tw_c tw_662)) rfl dX6_takeNumber_53 ?_
            refine pl_i hx hb hK hP hL_this_tape hK_this_tape hN_this_tape (rg_in h_187 (by decide)) dX6_takeNumber_56 ?_
            refine lv_tov x_189 ex_189.symm ?_
            refine lv_iadd hx hb dX6_takeNumber_57 ?_
            refine lv_topi (fun x_206 ex_206 => ?_)
            refine lv_bipush (v := 48) hx hb dX6_takeNumber_58 (by decide) ?_
            refine lv_isub hx hb dX6_takeNumber_60 ?_
            refine lv_topi (fun x_207 ex_207 => ?_)
            refine va_mmin hx hb (hml.trans hl.1.symm) hown (hts _ (tw_c tw_677)) (hts _ (tw_c tw_467)) (hts _ (tw_c tw_276)) (hts _ (tw_c tw_468)) (Nat.le_of_ble_eq_true rfl) (Nat.le_of_ble_eq_true rfl) (Nat.zero_le _) (Nat.zero_le _) dX6_takeNumber_61 ?_
            refine lv_topi (fun x_208 ex_208 => ?_)
            have h_209 : rg x_208 (-2147483648) 10000 := rg_of_eq ex_208 (rg_min2 (rg_k (10000 : Int32) 10000 rfl) (rg_full _) (by decide))
            have uh_209 := h_209.1
            have vh_209 := h_209.2
            have tx_208 : (x_208).toInt ≤ 10000 ∧ (x_208).toInt ≤ (x_207).toInt := by rw [ex_208]; exact min_le _ _
            refine pp_i (v := x_208) (ty := .int) (C := RX6) (T := TX6) (N := 6) hx hb hts (tw_i inlX6) tyX6 tyX6_ok nmX6 hown hK hP hD hS hL_this hK_this (by decide) rfl 4 196 (by decide) (hts _ (tw_c tw_676)) rfl (tyX6_ok 4 (by decide)) rfl rfl (Nat.le_of_ble_eq_true rfl) (ps_196 _ _ _ _ _) dX6_takeNumber_64 (fun I_210 H locs eI_210 hP hD hS => ?_)
            have hG := GX.wI hG 196 rfl eI_210 (rg_w h_209 (by decide)) (by decide)
            have tt_211 : (I_210 197 this).toInt = (I_135 197 this).toInt := by rw [eI_210, pq_uf _ _ _ (by decide)]
            have tt_212 : (I_210 193 this).toInt = (I_135 193 this).toInt := by rw [eI_210, pq_uf _ _ _ (by decide)]
            have tt_213 : (I_210 194 this).toInt = (I_135 194 this).toInt := by rw [eI_210, pq_uf _ _ _ (by decide)]
            refine lv_aload_n hx hb dX6_takeNumber_67 rfl (lv_at hl 0 rfl) ?_
            refine lv_dup hx hb dX6_takeNumber_68 rfl ?_
            refine pg_f (v := .int (I_210 197 this)) (C := RX6) (T := TX6) (N := 6) hx hb hts (tw_i inlX6) hown hK hP hL_this hK_this (by decide) rfl 5 (by decide) (hts _ (tw_c tw_662)) rfl dX6_takeNumber_69 ?_
            have h_214 : rg (I_210 197 this) 0 299 := (by rw [eI_210, pq_uf _ _ _ (by decide)]; exact h_187)
            have uh_214 := h_214.1
            have vh_214 := h_214.2
            refine lv_iconst (v := 1) hx hb dX6_takeNumber_72 (by decide) ?_
            refine lv_iadd hx hb dX6_takeNumber_73 ?_
            refine lv_topi (fun x_215 ex_215 => ?_)
            have h_216 : rg x_215 1 300 := rg_of_eq ex_215 (rg_add h_214 (rg_k (1 : Int32) 1 rfl) (by decide))
            have uh_216 := h_216.1
            have vh_216 := h_216.2
            have tx_215 : (x_215).toInt = (I_210 197 this).toInt + 1 := by rw [ex_215]; exact i_add_rg (a2 := (I_210 197 this).toInt) (b2 := 1) rfl rfl h_214 (rg_k (1 : Int32) 1 rfl) (by decide)
            refine pp_i (v := x_215) (ty := .int) (C := RX6) (T := TX6) (N := 6) hx hb hts (tw_i inlX6) tyX6 tyX6_ok nmX6 hown hK hP hD hS hL_this hK_this (by decide) rfl 5 197 (by decide) (hts _ (tw_c tw_662)) rfl (tyX6_ok 5 (by decide)) rfl rfl (Nat.le_of_ble_eq_true rfl) (ps_197 _ _ _ _ _) dX6_takeNumber_74 (fun I_217 H locs eI_217 hP hD hS => ?_)
            have hG := GX.wI hG 197 rfl eI_217 (rg_w h_216 (by decide)) (by decide)
            have tt_218 : (I_217 197 this).toInt = (x_215).toInt := by rw [eI_217, pq_us]
            have tt_219 : (I_217 193 this).toInt = (I_210 193 this).toInt := by rw [eI_217, pq_uf _ _ _ (by decide)]
            have tt_220 : (I_217 194 this).toInt = (I_210 194 this).toInt := by rw [eI_217, pq_uf _ _ _ (by decide)]
            refine lv_goto (tgt := 11) hx hb dX6_takeNumber_77 (by decide) ?_
            exact ih_179 I_217 _ _ _ (by omega) (ms_fu_iadd hm_176 (by rw [eI_217]; exact pq_us _ _ _ _) ex_215 ((congrFun (show I_210 197 = I_135 197 from by rw [eI_210]; exact pq_uf _ _ _ (by decide)) this).trans rfl) (kk := 1) rfl (by decide) h_214 (by decide) (by decide)) hG hP hD hS (lv_sub hl [0] rfl)
    exact L_178 _ I_5 _ _ _ (by omega) (Nat.lt_succ_self _) hG hP hD hS (lv_sub hl [0] rfl)
  exact go _ _ _ hP hD hS hl

set_option maxHeartbeats 4000000 in
set_option maxRecDepth 100000 in
theorem s_X6_takeLonger_x (l : Launch) (D : va_G) (t : pq_T) (σ : pq_S) (I : Nat → Nat → Int32) (J : Nat → Nat → Int64) (ri : Nat → Nat → Int32) (rj : Nat → Nat → Int64) (rq : Nat → Nat → Option Nat) (sz : Nat) (tg : Nat → Nat) (hSH : SH σ tg) (hG0 : GS tg σ I ri rq) (this : Nat) (hL_this : this ∈ σ.1) (hK_this : σ.2.1 this = 6) : MetV l yX6_takeLonger (wa yX6_takeLonger cX6_takeLonger 2 none) ({ frames := 0, cells := 0, slots := 0, locals := 0 }) [.ref this] D t σ (I, J, ri, rj, rq) sz 0 0 (fun (u : pq_S × pq_M) => ∃ I' : Nat → Nat → Int32, u = (σ, I', J, ri, rj, rq) ∧ GX [194, 197] tg σ I ri rj I' ri rj rq ∧ ((I 197 this).toInt ≤ (I' 197 this).toInt)) := by
  refine Met.ofW (cc := cX6_takeLonger) (maxL := 2) (ret := none) (by decide) rfl ?_
  intro p e s m args below meth c s₁ B hml hv
  obtain ⟨rfl, hsz, hP, hK, hD0, hN⟩ := hv
  have hx := B.exec
  have hb := B.bytes
  have hr := B.returns
  have hts := atoms_spec (ws := (wa yX6_takeLonger cX6_takeLonger 2 none)) B.pre
  have hown : s.vm.findClass RX6 = some m.cls := findClass_of_methodNamed B.named
  have hlocks := B.notSynchronized
  subst hsz
  have hD : va_D (pq_B t σ (I, J, ri, rj, rq) s.heap.size) (pq_P t σ (I, J, ri, rj, rq)) := hD0.self
  generalize hAe : pq_B t σ (I, J, ri, rj, rq) s.heap.size = A at hD ⊢
  have hA : ∀ q : Nat, s.heap.size ≤ q → A q := fun q h => by rw [← hAe]; exact Or.inr h
  have hS : va_S A s.heap s.heap [] := va_S.rf
  have hG : GX [194, 197] tg σ I ri rj I ri rj rq := ⟨hG0, fun _ _ _ => rfl, fun _ _ _ _ _ => rfl, fun _ _ _ _ _ => rfl⟩
  have hl := lv_entry ([.ref this]) (n := 2) (Nat.le_of_ble_eq_true rfl)
  rw [lg_entry_eq]
  generalize (lg_sl ([.ref this]) ++ List.replicate (2 - (lg_sl ([.ref this])).length) Slot.unset).toArray = ls at hl ⊢
  have hl : lv_has ls 2 [(0, .ref this)] := hl
  refine q_gen (fun Q hQ => ?_)
  have go : ∀ (H : Heap) (locs : List Loc) (ls : Array Slot), va_P D vwCl (pq_P t σ (I, J, ri, rj, rq)) H → va_D A (pq_P t σ (I, J, ri, rj, rq)) → va_S A s.heap H locs → lv_has ls 2 [(0, .ref this)] → W p l e ({ frames := 0, cells := 0, slots := 0, locals := 0 } : Room) s m (List.toArray ([.ref this] : List Value)) below meth c H locs 0 0 Q (F0 m 0 ls []) := by
    intro H locs ls hP hD hS hl
    refine lv_aload_n hx hb dX6_takeLonger_0 rfl (lv_at hl 0 rfl) ?_
    refine pg_f (v := .int (I 197 this)) (C := RX6) (T := TX6) (N := 6) hx hb hts (tw_i inlX6) hown hK hP hL_this hK_this (by decide) rfl 5 (by decide) (hts _ (tw_c tw_662)) rfl dX6_takeLonger_1 ?_
    have h_1 : rg (I 197 this) 0 300 := GX.rI hG 197 rfl
    have uh_1 := h_1.1
    have vh_1 := h_1.2
    refine lv_aload_n hx hb dX6_takeLonger_4 rfl (lv_at hl 0 rfl) ?_
    refine pg_f (v := .int (I 193 this)) (C := RX6) (T := TX6) (N := 6) hx hb hts (tw_i inlX6) hown hK hP hL_this hK_this (by decide) rfl 1 (by decide) (hts _ (tw_c tw_626)) rfl dX6_takeLonger_5 ?_
    have h_2 : rg (I 193 this) 0 300 := GX.rI hG 193 rfl
    have uh_2 := h_2.1
    have vh_2 := h_2.2
    refine lv_icmp_ge (tgt := 29) hx hb dX6_takeLonger_8 (by decide) (fun c_3 => ?_) (fun c_3 => ?_)
    · have tc_4 : (I 193 this).toInt ≤ (I 197 this).toInt := Int32.le_iff_toInt_le.mp c_3
      refine lv_iconst (v := 0) hx hb dX6_takeLonger_29 (by decide) ?_
      refine lv_istore_n (lv' := [(1, .int 0), (0, .ref this)]) hx hb dX6_takeLonger_30 rfl hl (by decide) rfl (fun ls hl => ?_)
      refine lv_iload_n hx hb dX6_takeLonger_31 rfl (lv_at hl 0 rfl) ?_
      refine lv_if_eq (tgt := 83) hx hb dX6_takeLonger_32 (by decide) (fun c_5 => ?_) (fun c_5 => absurd c_5 (by decide))
      subst hQ
      exact W.vret hx hb hr (fun t1 ht hW => ⟨⟨(σ, I, J, ri, rj, rq), rfl, ⟨I, rfl, hG, (by omega)⟩, by rw [ht]; exact hP, va_K.moved hW.alike hK, hD⟩, hS.F ht⟩) hS.2.2 dX6_takeLonger_83
    · have tc_6 : (I 197 this).toInt < (I 193 this).toInt := Int32.lt_iff_toInt_lt.mp (nle c_3)
      have h_7 : rg (I 197 this) 0 299 := rg_lt1 (nle c_3) h_1 h_2 (by decide)
      have uh_7 := h_7.1
      have vh_7 := h_7.2
      have h_8 : rg (I 193 this) 1 300 := rg_lt2 (nle c_3) h_1 h_2 (by decide)
      have uh_8 := h_8.1
      have vh_8 := h_8.2
      refine lv_aload_n hx hb dX6_takeLonger_11 rfl (lv_at hl 0 rfl) ?_
      obtain ⟨w_9, hR_w_9, hL_w_9, hK_w_9, hN_w_9, hT_w_9⟩ := sh_a hSH 192 (ci := 6) (kd := 13) (len := 300) rfl (by decide) hL_this hK_this
      refine pg_f (v := .ref w_9) (C := RX6) (T := TX6) (N := 6) hx hb hts (tw_i inlX6) hown hK hP hL_this hK_this (by decide) rfl 0 (by decide) (hts _ (tw_c tw_165)) (pq_hv rfl hR_w_9) dX6_takeLonger_12 ?_
      refine lv_aload_n hx hb dX6_takeLonger_15 rfl (lv_at hl 0 rfl) ?_
      refine pg_f (v := .int (I 197 this)) (C := RX6) (T := TX6) (N := 6) hx hb hts (tw_i inlX6) hown hK hP hL_this hK_this (by decide) rfl 5 (by decide) (hts _ (tw_c tw_662)) rfl dX6_takeLonger_16 ?_
      refine pl_i hx hb hK hP hL_w_9 hK_w_9 hN_w_9 (rg_in h_7 (by decide)) dX6_takeLonger_19 ?_
      refine lv_topi (fun x_10 ex_10 => ?_)
      refine lv_bipush (v := 61) hx hb dX6_takeLonger_20 (by decide) ?_
      refine lv_icmp_ne (tgt := 29) hx hb dX6_takeLonger_22 (by decide) (fun c_11 => ?_) (fun c_11 => ?_)
      · have tc_12 : (x_10).toInt ≠ 61 := fun q => c_11 (Int32.toInt_inj.mp q)
        refine lv_iconst (v := 0) hx hb dX6_takeLonger_29 (by decide) ?_
        refine lv_istore_n (lv' := [(1, .int 0), (0, .ref this)]) hx hb dX6_takeLonger_30 rfl hl (by decide) rfl (fun ls hl => ?_)
        refine lv_iload_n hx hb dX6_takeLonger_31 rfl (lv_at hl 0 rfl) ?_
        refine lv_if_eq (tgt := 83) hx hb dX6_takeLonger_32 (by decide) (fun c_13 => ?_) (fun c_13 => absurd c_13 (by decide))
        subst hQ
        exact W.vret hx hb hr (fun t1 ht hW => ⟨⟨(σ, I, J, ri, rj, rq), rfl, ⟨I, rfl, hG, (by omega)⟩, by rw [ht]; exact hP, va_K.moved hW.alike hK, hD⟩, hS.F ht⟩) hS.2.2 dX6_takeLonger_83
      · have tc_14 : (x_10).toInt = 61 := congrArg Int32.toInt c_11
        have h_15 : rg x_10 61 61 := rg_and (rg_full _) (rg_of_eq c_11 (rg_k (61 : Int32) 61 rfl)) (by decide)
        have uh_15 := h_15.1
        have vh_15 := h_15.2
        refine lv_iconst (v := 1) hx hb dX6_takeLonger_25 (by decide) ?_
        refine lv_goto (tgt := 30) hx hb dX6_takeLonger_26 (by decide) ?_
        refine lv_istore_n (lv' := [(1, .int 1), (0, .ref this)]) hx hb dX6_takeLonger_30 rfl hl (by decide) rfl (fun ls hl => ?_)
        refine lv_iload_n hx hb dX6_takeLonger_31 rfl (lv_at hl 0 rfl) ?_
        refine lv_if_eq (tgt := 83) hx hb dX6_takeLonger_32 (by decide) (fun c_16 => absurd c_16 (by decide)) (fun c_16 => ?_)
        refine lv_aload_n hx hb dX6_takeLonger_35 rfl (lv_at hl 1 rfl) ?_
        refine pg_f (v := .int (I 194 this)) (C := RX6) (T := TX6) (N := 6) hx hb hts (tw_i inlX6) hown hK hP hL_this hK_this (by decide) rfl 2 (by decide) (hts _ (tw_c tw_668)) rfl dX6_takeLonger_36 ?_
        refine lv_bipush (v := 19) hx hb dX6_takeLonger_39 (by decide) ?_
        refine lv_icmp_eq (tgt := 53) hx hb dX6_takeLonger_41 (by decide) (fun c_17 => ?_) (fun c_17 => ?_)
        · have tc_18 : (I 194 this).toInt = 19 := congrArg Int32.toInt c_17
          have h_19 : rg (I 194 this) 19 19 := rg_and (rg_full _) (rg_of_eq c_17 (rg_k (19 : Int32) 19 rfl)) (by decide)
          have uh_19 := h_19.1
          have vh_19 := h_19.2
          refine lv_aload_n hx hb dX6_takeLonger_53 rfl (lv_at hl 1 rfl) ?_
          refine lv_aload_n hx hb dX6_takeLonger_54 rfl (lv_at hl 1 rfl) ?_
          refine pg_f (v := .int (I 194 this)) (C := RX6) (T := TX6) (N := 6) hx hb hts (tw_i inlX6) hown hK hP hL_this hK_this (by decide) rfl 2 (by decide) (hts _ (tw_c tw_668)) rfl dX6_takeLonger_55 ?_
          refine lv_bipush (v := 19) hx hb dX6_takeLonger_58 (by decide) ?_
          refine lv_icmp_ne (tgt := 68) hx hb dX6_takeLonger_60 (by decide) (fun c_20 => ?_) (fun c_20 => ?_)
          · have tc_21 : (I 194 this).toInt ≠ 19 := fun q => c_20 (Int32.toInt_inj.mp q)
            exact (rg_empty (rg_ne c_20 h_19 19 rfl (lo := 20) (hi := 18) (by decide)) (by decide)).elim
          · have tc_22 : (I 194 this).toInt = 19 := congrArg Int32.toInt c_20
            refine lv_bipush (v := 20) hx hb dX6_takeLonger_63 (by decide) ?_
            refine lv_goto (tgt := 70) hx hb dX6_takeLonger_65 (by decide) ?_
            refine pp_i (v := 20) (ty := .int) (C := RX6) (T := TX6) (N := 6) hx hb hts (tw_i inlX6) tyX6 tyX6_ok nmX6 hown hK hP hD hS hL_this hK_this (by decide) rfl 2 194 (by decide) (hts _ (tw_c tw_668)) rfl (tyX6_ok 2 (by decide)) rfl rfl (Nat.le_of_ble_eq_true rfl) (ps_194 _ _ _ _ _) dX6_takeLonger_70 (fun I_23 H locs eI_23 hP hD hS => ?_)
            have hG := GX.wI hG 194 rfl eI_23 (rg_w (rg_k (20 : Int32) 20 rfl) (by decide)) (by decide)
            have tt_24 : (I_23 197 this).toInt = (I 197 this).toInt := by rw [eI_23, pq_uf _ _ _ (by decide)]
            have tt_25 : (I_23 193 this).toInt = (I 193 this).toInt := by rw [eI_23, pq_uf _ _ _ (by decide)]
            have tt_26 : (I_23 194 this).toInt = 20 := by rw [eI_23, pq_us]; rfl
            refine lv_aload_n hx hb dX6_takeLonger_73 rfl (lv_at hl 1 rfl) ?_
            refine lv_dup hx hb dX6_takeLonger_74 rfl ?_
            refine pg_f (v := .int (I_23 197 this)) (C := RX6) (T := TX6) (N := 6) hx hb hts (tw_i inlX6) hown hK hP hL_this hK_this (by decide) rfl 5 (by decide) (hts _ (tw_c tw_662)) rfl dX6_takeLonger_75 ?_
            have h_27 : rg (I_23 197 this) 0 299 := (by rw [eI_23, pq_uf _ _ _ (by decide)]; exact h_7)
            have uh_27 := h_27.1
            have vh_27 := h_27.2
            refine lv_iconst (v := 1) hx hb dX6_takeLonger_78 (by decide) ?_
            refine lv_iadd hx hb dX6_takeLonger_79 ?_
            refine lv_topi (fun x_28 ex_28 => ?_)
            have h_29 : rg x_28 1 300 := rg_of_eq ex_28 (rg_add h_27 (rg_k (1 : Int32) 1 rfl) (by decide))
            have uh_29 := h_29.1
            have vh_29 := h_29.2
            have tx_28 : (x_28).toInt = (I_23 197 this).toInt + 1 := by rw [ex_28]; exact i_add_rg (a2 := (I_23 197 this).toInt) (b2 := 1) rfl rfl h_27 (rg_k (1 : Int32) 1 rfl) (by decide)
            refine pp_i (v := x_28) (ty := .int) (C := RX6) (T := TX6) (N := 6) hx hb hts (tw_i inlX6) tyX6 tyX6_ok nmX6 hown hK hP hD hS hL_this hK_this (by decide) rfl 5 197 (by decide) (hts _ (tw_c tw_662)) rfl (tyX6_ok 5 (by decide)) rfl rfl (Nat.le_of_ble_eq_true rfl) (ps_197 _ _ _ _ _) dX6_takeLonger_80 (fun I_30 H locs eI_30 hP hD hS => ?_)
            have hG := GX.wI hG 197 rfl eI_30 (rg_w h_29 (by decide)) (by decide)
            have tt_31 : (I_30 197 this).toInt = (x_28).toInt := by rw [eI_30, pq_us]
            have tt_32 : (I_30 193 this).toInt = (I_23 193 this).toInt := by rw [eI_30, pq_uf _ _ _ (by decide)]
            have tt_33 : (I_30 194 this).toInt = (I_23 194 this).toInt := by rw [eI_30, pq_uf _ _ _ (by decide)]
            subst hQ
            exact W.vret hx hb hr (fun t1 ht hW => ⟨⟨(σ, I_30, J, ri, rj, rq), rfl, ⟨I_30, rfl, hG, (by omega)⟩, by rw [ht]; exact hP, va_K.moved hW.alike hK, hD⟩, hS.F ht⟩) hS.2.2 dX6_takeLonger_83
        · have tc_34 : (I 194 this).toInt ≠ 19 := fun q => c_17 (Int32.toInt_inj.mp q)
          refine lv_aload_n hx hb dX6_takeLonger_44 rfl (lv_at hl 1 rfl) ?_
          refine pg_f (v := .int (I 194 this)) (C := RX6) (T := TX6) (N := 6) hx hb hts (tw_i inlX6) hown hK hP hL_this hK_this (by decide) rfl 2 (by decide) (hts _ (tw_c tw_668)) rfl dX6_takeLonger_45 ?_
          refine lv_bipush (v := 21) hx hb dX6_takeLonger_48 (by decide) ?_
          refine lv_icmp_ne (tgt := 83) hx hb dX6_takeLonger_50 (by decide) (fun c_35 => ?_) (fun c_35 => ?_)
          · have tc_36 : (I 194 this).toInt ≠ 21 := fun q => c_35 (Int32.toInt_inj.mp q)
            subst hQ
            exact W.vret hx hb hr (fun t1 ht hW => ⟨⟨(σ, I, J, ri, rj, rq), rfl, ⟨I, rfl, hG, (by omega)⟩, by rw [ht]; exact hP, va_K.moved hW.alike hK, hD⟩, hS.F ht⟩) hS.2.2 dX6_takeLonger_83
          · have tc_37 : (I 194 this).toInt = 21 := congrArg Int32.toInt c_35
            have h_38 : rg (I 194 this) 21 21 := rg_and (rg_full _) (rg_of_eq c_35 (rg_k (21 : Int32) 21 rfl)) (by decide)
            have uh_38 := h_38.1
            have vh_38 := h_38.2
            refine lv_aload_n hx hb dX6_takeLonger_53 rfl (lv_at hl 1 rfl) ?_
            refine lv_aload_n hx hb dX6_takeLonger_54 rfl (lv_at hl 1 rfl) ?_
            refine pg_f (v := .int (I 194 this)) (C := RX6) (T := TX6) (N := 6) hx hb hts (tw_i inlX6) hown hK hP hL_this hK_this (by decide) rfl 2 (by decide) (hts _ (tw_c tw_668)) rfl dX6_takeLonger_55 ?_
            refine lv_bipush (v := 19) hx hb dX6_takeLonger_58 (by decide) ?_
            refine lv_icmp_ne (tgt := 68) hx hb dX6_takeLonger_60 (by decide) (fun c_39 => ?_) (fun c_39 => ?_)
            · have tc_40 : (I 194 this).toInt ≠ 19 := fun q => c_39 (Int32.toInt_inj.mp q)
              refine lv_bipush (v := 22) hx hb dX6_takeLonger_68 (by decide) ?_
              refine pp_i (v := 22) (ty := .int) (C := RX6) (T := TX6) (N := 6) hx hb hts (tw_i inlX6) tyX6 tyX6_ok nmX6 hown hK hP hD hS hL_this hK_this (by decide) rfl 2 194 (by decide) (hts _ (tw_c tw_668)) rfl (tyX6_ok 2 (by decide)) rfl rfl (Nat.le_of_ble_eq_true rfl) (ps_194 _ _ _ _ _) dX6_takeLonger_70 (fun I_41 H locs eI_41 hP hD hS => ?_)
              have hG := GX.wI hG 194 rfl eI_41 (rg_w (rg_k (22 : Int32) 22 rfl) (by decide)) (by decide)
              have tt_42 : (I_41 197 this).toInt = (I 197 this).toInt := by rw [eI_41, pq_uf _ _ _ (by decide)]
              have tt_43 : (I_41 193 this).toInt = (I 193 this).toInt := by rw [eI_41, pq_uf _ _ _ (by decide)]
              have tt_44 : (I_41 194 this).toInt = 22 := by rw [eI_41, pq_us]; rfl
              refine lv_aload_n hx hb dX6_takeLonger_73 rfl (lv_at hl 1 rfl) ?_
              refine lv_dup hx hb dX6_takeLonger_74 rfl ?_
              refine pg_f (v := .int (I_41 197 this)) (C := RX6) (T := TX6) (N := 6) hx hb hts (tw_i inlX6) hown hK hP hL_this hK_this (by decide) rfl 5 (by decide) (hts _ (tw_c tw_662)) rfl dX6_takeLonger_75 ?_
              have h_45 : rg (I_41 197 this) 0 299 := (by rw [eI_41, pq_uf _ _ _ (by decide)]; exact h_7)
              have uh_45 := h_45.1
              have vh_45 := h_45.2
              refine lv_iconst (v := 1) hx hb dX6_takeLonger_78 (by decide) ?_
              refine lv_iadd hx hb dX6_takeLonger_79 ?_
              refine lv_topi (fun x_46 ex_46 => ?_)
              have h_47 : rg x_46 1 300 := rg_of_eq ex_46 (rg_add h_45 (rg_k (1 : Int32) 1 rfl) (by decide))
              have uh_47 := h_47.1
              have vh_47 := h_47.2
              have tx_46 : (x_46).toInt = (I_41 197 this).toInt + 1 := by rw [ex_46]; exact i_add_rg (a2 := (I_41 197 this).toInt) (b2 := 1) rfl rfl h_45 (rg_k (1 : Int32) 1 rfl) (by decide)
              refine pp_i (v := x_46) (ty := .int) (C := RX6) (T := TX6) (N := 6) hx hb hts (tw_i inlX6) tyX6 tyX6_ok nmX6 hown hK hP hD hS hL_this hK_this (by decide) rfl 5 197 (by decide) (hts _ (tw_c tw_662)) rfl (tyX6_ok 5 (by decide)) rfl rfl (Nat.le_of_ble_eq_true rfl) (ps_197 _ _ _ _ _) dX6_takeLonger_80 (fun I_48 H locs eI_48 hP hD hS => ?_)
              have hG := GX.wI hG 197 rfl eI_48 (rg_w h_47 (by decide)) (by decide)
              have tt_49 : (I_48 197 this).toInt = (x_46).toInt := by rw [eI_48, pq_us]
              have tt_50 : (I_48 193 this).toInt = (I_41 193 this).toInt := by rw [eI_48, pq_uf _ _ _ (by decide)]
              have tt_51 : (I_48 194 this).toInt = (I_41 194 this).toInt := by rw [eI_48, pq_uf _ _ _ (by decide)]
              subst hQ
              exact W.vret hx hb hr (fun t1 ht hW => ⟨⟨(σ, I_48, J, ri, rj, rq), rfl, ⟨I_48, rfl, hG, (by omega)⟩, by rw [ht]; exact hP, va_K.moved hW.alike hK, hD⟩, hS.F ht⟩) hS.2.2 dX6_takeLonger_83
            · have tc_52 : (I 194 this).toInt = 19 := congrArg Int32.toInt c_39
              exact (rg_empty (rg_and h_38 (rg_of_eq c_39 (rg_k (19 : Int32) 19 rfl)) (lo := 21) (hi := 19) (by decide)) (by decide)).elim
  exact go _ _ _ hP hD hS hl

set_option maxHeartbeats 4000000 in
set_option maxRecDepth 100000 in
theorem s_X6_takeWord (l : Launch) (D : va_G) (t : pq_T) (σ : pq_S) (I : Nat → Nat → Int32) (J : Nat → Nat → Int64) (ri : Nat → Nat → Int32) (rj : Nat → Nat → Int64) (rq : Nat → Nat → Option Nat) (sz : Nat) (aK aV : Nat) (vF : Value) (tg : Nat → Nat) (hSH : SH σ tg) (hG0 : GS tg σ I ri rq) (this : Nat) (hL_this : this ∈ σ.1) (hK_this : σ.2.1 this = 6) (this_tape : Nat) (hR_this_tape : σ.2.2.1 192 this = some this_tape) (hL_this_tape : this_tape ∈ σ.1) (hK_this_tape : σ.2.1 this_tape = 13) (hN_this_tape : σ.2.2.2 this_tape = 300) (hT_this_tape : tg this_tape = 192) (hat : (I 197 this).toInt < (I 193 this).toInt) (hdg : (65 ≤ (ri this_tape (I 197 this).toNatClampNeg).toInt ∧ (ri this_tape (I 197 this).toNatClampNeg).toInt ≤ 90 ∨ 97 ≤ (ri this_tape (I 197 this).toNatClampNeg).toInt ∧ (ri this_tape (I 197 this).toNatClampNeg).toInt ≤ 122)) : MetVS aK aV vF l yX6_takeWord (wa yX6_takeWord cX6_takeWord 5 none) ({ frames := 4, cells := 0, slots := 0, locals := 85 }) [.ref this] D t σ (I, J, ri, rj, rq) sz 0 0 (fun (u : pq_S × pq_M) => ∃ I' : Nat → Nat → Int32, u = (σ, I', J, ri, rj, rq) ∧ GX [197, 194] tg σ I ri rj I' ri rj rq ∧ ((I 197 this).toInt + 1 ≤ (I' 197 this).toInt)) := by
  refine Met.ofW (cc := cX6_takeWord) (maxL := 5) (ret := none) (by decide) rfl ?_
  intro p e s m args below meth c s₁ B hml hv
  obtain ⟨rfl, ⟨hsz, hP, hK, hD0, hN⟩, hW0⟩ := hv
  have hx := B.exec
  have hb := B.bytes
  have hr := B.returns
  have hts := atoms_spec (ws := (wa yX6_takeWord cX6_takeWord 5 none)) B.pre
  have hown : s.vm.findClass RX6 = some m.cls := findClass_of_methodNamed B.named
  have hlocks := B.notSynchronized
  subst hsz
  have hD : va_D (pq_B t σ (I, J, ri, rj, rq) s.heap.size) (pq_P t σ (I, J, ri, rj, rq)) := hD0.self
  generalize hAe : pq_B t σ (I, J, ri, rj, rq) s.heap.size = A at hD hW0 ⊢
  have hA : ∀ q : Nat, s.heap.size ≤ q → A q := fun q h => by rw [← hAe]; exact Or.inr h
  have hS : va_S A s.heap s.heap [] := va_S.rf
  have hG : GX [197, 194] tg σ I ri rj I ri rj rq := ⟨hG0, fun _ _ _ => rfl, fun _ _ _ _ _ => rfl, fun _ _ _ _ _ => rfl⟩
  have hl := lv_entry ([.ref this]) (n := 5) (Nat.le_of_ble_eq_true rfl)
  rw [lg_entry_eq]
  generalize (lg_sl ([.ref this]) ++ List.replicate (5 - (lg_sl ([.ref this])).length) Slot.unset).toArray = ls at hl ⊢
  have hl : lv_has ls 5 [(0, .ref this)] := hl
  refine q_gen (fun Q hQ => ?_)
  have go : ∀ (H : Heap) (locs : List Loc) (ls : Array Slot), va_P D vwCl (pq_P t σ (I, J, ri, rj, rq)) H → va_D A (pq_P t σ (I, J, ri, rj, rq)) → va_S A s.heap H locs → lv_has ls 5 [(0, .ref this)] → W p l e ({ frames := 4, cells := 0, slots := 0, locals := 85 } : Room) s m (List.toArray ([.ref this] : List Value)) below meth c H locs 0 0 Q (F0 m 0 ls []) := by
    intro H locs ls hP hD hS hl
    refine lv_aload_n hx hb dX6_takeWord_0 rfl (lv_at hl 0 rfl) ?_
    refine pg_f (v := .int (I 197 this)) (C := RX6) (T := TX6) (N := 6) hx hb hts (tw_i inlX6) hown hK hP hL_this hK_this (by decide) rfl 5 (by decide) (hts _ (tw_c tw_662)) rfl dX6_takeWord_1 ?_
    have h_1 : rg (I 197 this) 0 300 := GX.rI hG 197 rfl
    have uh_1 := h_1.1
    have vh_1 := h_1.2
    refine lv_aload_n hx hb dX6_takeWord_4 rfl (lv_at hl 0 rfl) ?_
    refine pg_f (v := .int (I 193 this)) (C := RX6) (T := TX6) (N := 6) hx hb hts (tw_i inlX6) hown hK hP hL_this hK_this (by decide) rfl 1 (by decide) (hts _ (tw_c tw_626)) rfl dX6_takeWord_5 ?_
    have h_2 : rg (I 193 this) 0 300 := GX.rI hG 193 rfl
    have uh_2 := h_2.1
    have vh_2 := h_2.2
    have K_14580 : ∀  (H : Heap) (locs : List Loc) (ls : Array Slot), ((I 197 this).toInt + 1 ≤ (I 197 this).toInt) → GX [197, 194] tg σ I ri rj I ri rj rq → va_P D vwCl (pq_P t σ (I, J, ri, rj, rq)) H → va_D A (pq_P t σ (I, J, ri, rj, rq)) → va_S A s.heap H locs → lv_has ls 5 [(0, .ref this)] → W p l e ({ frames := 4, cells := 0, slots := 0, locals := 85 } : Room) s m (List.toArray ([.ref this] : List Value)) below meth c H locs 0 0 Q (F0 m 39 ls []) := by
      intro H locs ls hrel_14582 hG hP hD hS hl
      refine lv_aload_n hx hb dX6_takeWord_39 rfl (lv_at hl 0 rfl) ?_
      refine lv_bipush (v := 34) hx hb dX6_takeWord_40 (by decide) ?_
      refine pp_i (v := 34) (ty := .int) (C := RX6) (T := TX6) (N := 6) hx hb hts (tw_i inlX6) tyX6 tyX6_ok nmX6 hown hK hP hD hS hL_this hK_this (by decide) rfl 2 194 (by decide) (hts _ (tw_c tw_668)) rfl (tyX6_ok 2 (by decide)) rfl rfl (Nat.le_of_ble_eq_true rfl) (ps_194 _ _ _ _ _) dX6_takeWord_42 (fun I_14583 H locs eI_14583 hP hD hS => ?_)
      have hG := GX.wI hG 194 rfl eI_14583 (rg_w (rg_k (34 : Int32) 34 rfl) (by decide)) (by decide)
      have tt_14584 : (I_14583 197 this).toInt = (I 197 this).toInt := by rw [eI_14583, pq_uf _ _ _ (by decide)]
      have tt_14585 : (I_14583 193 this).toInt = (I 193 this).toInt := by rw [eI_14583, pq_uf _ _ _ (by decide)]
      have tt_14586 : (I_14583 194 this).toInt = 34 := by rw [eI_14583, pq_us]; rfl
      refine lv_iconst (v := 0) hx hb dX6_takeWord_45 (by decide) ?_
      refine lv_istore_n (lv' := [(1, .int 0), (0, .ref this)]) hx hb dX6_takeWord_46 rfl hl (by decide) rfl (fun ls hl => ?_)
      refine lv_aload_n hx hb dX6_takeWord_47 rfl (lv_at hl 1 rfl) ?_
      refine pg_f (v := .int (I_14583 195 this)) (C := RX6) (T := TX6) (N := 6) hx hb hts (tw_i inlX6) hown hK hP hL_this hK_this (by decide) rfl 3 (by decide) (hts _ (tw_c tw_667)) rfl dX6_takeWord_48 ?_
      have h_14587 : rg (I_14583 195 this) 0 300 := GX.rI hG 195 rfl
      have uh_14587 := h_14587.1
      have vh_14587 := h_14587.2
      refine lv_istore_n (lv' := [(2, .int (I_14583 195 this)), (1, .int 0), (0, .ref this)]) hx hb dX6_takeWord_51 rfl hl (by decide) rfl (fun ls hl => ?_)
      refine lv_iconst (v := 1) hx hb dX6_takeWord_52 (by decide) ?_
      refine lv_istore_n (lv' := [(3, .int 1), (2, .int (I_14583 195 this)), (1, .int 0), (0, .ref this)]) hx hb dX6_takeWord_53 rfl hl (by decide) rfl (fun ls hl => ?_)
      refine lv_iconst (v := 0) hx hb dX6_takeWord_54 (by decide) ?_
      refine lv_istore (lv' := [(4, .int 0), (3, .int 1), (2, .int (I_14583 195 this)), (1, .int 0), (0, .ref this)]) hx hb dX6_takeWord_55 hl (by decide) rfl (fun ls hl => ?_)
      have L_16900 : ∀ (n_16899 : Nat) (x_16812 : Int32) (x_16813 : Int32) (x_16814 : Int32) (x_16815 : Int32) (I_16816 : Nat → Nat → Int32) (H : Heap) (locs : List Loc) (ls : Array Slot), rg x_16813 0 394 → rg x_16814 0 1 → rg x_16815 0 94 → ((I 197 this).toInt + 1 ≤ (I_16816 197 this).toInt) → (0 ≤ (x_16813).toInt ∧ (x_16813).toInt ≤ 300 + (x_16815).toInt) → (94 - (x_16815).toInt).toNat < n_16899 → GX [197, 194] tg σ I ri rj I_16816 ri rj rq → va_P D vwCl (pq_P t σ (I_16816, J, ri, rj, rq)) H → va_D A (pq_P t σ (I_16816, J, ri, rj, rq)) → va_S A s.heap H locs → lv_has ls 5 [(0, .ref this), (1, .int x_16812), (2, .int x_16813), (3, .int x_16814), (4, .int x_16815)] → W p l e ({ frames := 4, cells := 0, slots := 0, locals := 85 } : Room) s m (List.toArray ([.ref this] : List Value)) below meth c H locs 0 0 Q (F0 m 57 ls []) := by
        intro n_16899
        induction n_16899 with
        | zero => intro x_16812 x_16813 x_16814 x_16815 I_16816 H locs ls h_16907 h_16908 h_16909 hrel_16910 hrel_16911 hm_16898 hG hP hD hS hl; exact absurd hm_16898 (Nat.not_lt_zero _)
        | succ n_16899 ih_16901 =>
          intro x_16812 x_16813 x_16814 x_16815 I_16816 H locs ls h_16907 h_16908 h_16909 hrel_16910 hrel_16911 hm_16898 hG hP hD hS hl
          have uh_16907 := h_16907.1
          have vh_16907 := h_16907.2
          have uh_16908 := h_16908.1
          have vh_16908 := h_16908.2
          have uh_16909 := h_16909.1
          have vh_16909 := h_16909.2
          refine lv_iload hx hb dX6_takeWord_57 (lv_at hl 4 rfl) ?_
          refine va_ldcS hx hb hown hW0.2.2.2.2.2.2.2 dX6_takeWord_59 ?_
          refine pk_i (va_runV (As := []) (rest := [.int x_16815]) ⟨hx, hb, hml, hown, hts⟩ (s_J0_length l D t σ I_16816 J ri rj rq H.size aK aV vF ) (cwV 0 hts (tw_V tw_685 tw_686 tw_687 tw_688 tw_689) rfl rfl rfl cv_yJ0_length_8abf5_0 ⟨Nat.le_of_ble_eq_true rfl, Nat.le_of_ble_eq_true rfl⟩) ⟨pq_blindS, pq_recvS hW0 hS, pq_preS hK hN hP hD hS hA hW0⟩ rfl rfl hl.1 rfl (lv_room (Nat.le_of_ble_eq_true rfl)) dX6_takeWord_61 ⟨Nat.le_of_ble_eq_true rfl, Nat.le_of_ble_eq_true rfl⟩) hD hS hA (fun x_16912 σ1 μ1 H locs hw_16913 hP hD hS => ?_)
          obtain ⟨hux_16912, hvx_16912⟩ := hw_16913
          obtain ⟨huax_16912, hubx_16912⟩ := Prod.mk.inj hux_16912
          rw [huax_16912, hubx_16912] at hP hD
          refine lv_tov 94 hvx_16912 ?_
          refine lv_icmp_ge (tgt := 164) hx hb dX6_takeWord_64 (by decide) (fun c_16914 => ?_) (fun c_16914 => ?_)
          · have tc_16915 : 94 ≤ (x_16815).toInt := Int32.le_iff_toInt_le.mp c_16914
            have h_16916 : rg x_16815 94 94 := rg_le2 c_16914 (rg_k (94 : Int32) 94 rfl) h_16909 (by decide)
            have uh_16916 := h_16916.1
            have vh_16916 := h_16916.2
            subst hQ
            exact W.vret hx hb hr (fun t1 ht hW => ⟨⟨(σ, I_16816, J, ri, rj, rq), rfl, ⟨I_16816, rfl, hG, (by omega)⟩, by rw [ht]; exact hP, va_K.moved hW.alike hK, hD⟩, hS.F ht⟩) hS.2.2 dX6_takeWord_164
          · have tc_16917 : (x_16815).toInt < 94 := Int32.lt_iff_toInt_lt.mp (nle c_16914)
            have h_16918 : rg x_16815 0 93 := rg_lt1 (nle c_16914) h_16909 (rg_k (94 : Int32) 94 rfl) (by decide)
            have uh_16918 := h_16918.1
            have vh_16918 := h_16918.2
            refine lv_aload_n hx hb dX6_takeWord_67 rfl (lv_at hl 0 rfl) ?_
            refine pg_f (v := .int (I_16816 194 this)) (C := RX6) (T := TX6) (N := 6) hx hb hts (tw_i inlX6) hown hK hP hL_this hK_this (by decide) rfl 2 (by decide) (hts _ (tw_c tw_668)) rfl dX6_takeWord_68 ?_
            refine lv_bipush (v := 34) hx hb dX6_takeWord_71 (by decide) ?_
            refine lv_icmp_ne (tgt := 164) hx hb dX6_takeWord_73 (by decide) (fun c_16919 => ?_) (fun c_16919 => ?_)
            · have tc_16920 : (I_16816 194 this).toInt ≠ 34 := fun q => c_16919 (Int32.toInt_inj.mp q)
              subst hQ
              exact W.vret hx hb hr (fun t1 ht hW => ⟨⟨(σ, I_16816, J, ri, rj, rq), rfl, ⟨I_16816, rfl, hG, (by omega)⟩, by rw [ht]; exact hP, va_K.moved hW.alike hK, hD⟩, hS.F ht⟩) hS.2.2 dX6_takeWord_164
            · have tc_16921 : (I_16816 194 this).toInt = 34 := congrArg Int32.toInt c_16919
              have h_16922 : rg (I_16816 194 this) 34 34 := rg_and (rg_full _) (rg_of_eq c_16919 (rg_k (34 : Int32) 34 rfl)) (by decide)
              have uh_16922 := h_16922.1
              have vh_16922 := h_16922.2
              refine va_ldcS hx hb hown hW0.2.2.2.2.2.2.2 dX6_takeWord_76 ?_
              refine lv_iload hx hb dX6_takeWord_78 (lv_at hl 4 rfl) ?_
              refine pk_i (va_runV (As := [.int x_16815]) (rest := []) ⟨hx, hb, hml, hown, hts⟩ (s_J0_charAt l D t σ I_16816 J ri rj rq H.size aK aV vF x_16815 (Int32.not_lt.mpr (Int32.le_iff_toInt_le.mpr (by have z8 := (h_16918).1; have z9 : (0 : Int32).toInt = 0 := rfl; omega))) (Int32.lt_iff_toInt_lt.mpr (by have z8 := (h_16918).2; have z9 : (94 : Int32).toInt = 94 := rfl; omega))) (cwV 1 hts (tw_V tw_697 tw_698 tw_699 tw_688 tw_700) rfl rfl rfl cv_yJ0_charAt_5068e_1 ⟨Nat.le_of_ble_eq_true rfl, Nat.le_of_ble_eq_true rfl⟩) ⟨pq_blindS, pq_recvS hW0 hS, pq_preS hK hN hP hD hS hA hW0⟩ rfl rfl hl.1 rfl (lv_room (Nat.le_of_ble_eq_true rfl)) dX6_takeWord_80 ⟨Nat.le_of_ble_eq_true rfl, Nat.le_of_ble_eq_true rfl⟩) hD hS hA (fun x_16923 σ1 μ1 H locs hw_16924 hP hD hS => ?_)
              obtain ⟨hux_16923, hvx_16923⟩ := hw_16924
              obtain ⟨huax_16923, hubx_16923⟩ := Prod.mk.inj hux_16923
              rw [huax_16923, hubx_16923] at hP hD
              refine lv_bipush (v := 32) hx hb dX6_takeWord_83 (by decide) ?_
              refine lv_icmp_eq (tgt := 128) hx hb dX6_takeWord_85 (by decide) (fun c_16925 => ?_) (fun c_16925 => ?_)
              · have tc_16926 : (x_16923).toInt = 32 := congrArg Int32.toInt c_16925
                have h_16927 : rg x_16923 32 32 := rg_and (rg_full _) (rg_of_eq c_16925 (rg_k (32 : Int32) 32 rfl)) (by decide)
                have uh_16927 := h_16927.1
                have vh_16927 := h_16927.2
                refine lv_iload_n hx hb dX6_takeWord_128 rfl (lv_at hl 3 rfl) ?_
                refine lv_if_eq (tgt := 148) hx hb dX6_takeWord_129 (by decide) (fun c_16928 => ?_) (fun c_16928 => ?_)
                · have tc_16929 : (x_16814).toInt = 0 := congrArg Int32.toInt c_16928
                  have h_16930 : rg x_16814 0 0 := rg_and h_16908 (rg_of_eq c_16928 (rg_k (0 : Int32) 0 rfl)) (by decide)
                  have uh_16930 := h_16930.1
                  have vh_16930 := h_16930.2
                  obtain ⟨x_16931, ex_16931⟩ : ∃ y : Int32, y = x_16812 + Int32.ofInt 1 := ⟨_, rfl⟩
                  refine lv_iinc (v := x_16931) (lv' := [(1, .int x_16931), (0, .ref this), (2, .int x_16813), (3, .int x_16814), (4, .int x_16815)]) hx hb dX6_takeWord_148 hl (k := 1) rfl ex_16931.symm (by decide) rfl (fun ls hl => ?_)
                  refine lv_aload_n hx hb dX6_takeWord_151 rfl (lv_at hl 1 rfl) ?_
                  refine pg_f (v := .int (I_16816 195 this)) (C := RX6) (T := TX6) (N := 6) hx hb hts (tw_i inlX6) hown hK hP hL_this hK_this (by decide) rfl 3 (by decide) (hts _ (tw_c tw_667)) rfl dX6_takeWord_152 ?_
                  have h_16932 : rg (I_16816 195 this) 0 300 := GX.rI hG 195 rfl
                  have uh_16932 := h_16932.1
                  have vh_16932 := h_16932.2
                  refine lv_istore_n (lv' := [(2, .int (I_16816 195 this)), (1, .int x_16931), (0, .ref this), (3, .int x_16814), (4, .int x_16815)]) hx hb dX6_takeWord_155 rfl hl (by decide) rfl (fun ls hl => ?_)
                  refine lv_iconst (v := 1) hx hb dX6_takeWord_156 (by decide) ?_
                  refine lv_istore_n (lv' := [(3, .int 1), (2, .int (I_16816 195 this)), (1, .int x_16931), (0, .ref this), (4, .int x_16815)]) hx hb dX6_takeWord_157 rfl hl (by decide) rfl (fun ls hl => ?_)
                  obtain ⟨x_16933, ex_16933⟩ : ∃ y : Int32, y = x_16815 + Int32.ofInt 1 := ⟨_, rfl⟩
                  have h_16934 : rg x_16933 1 94 := rg_of_eq ex_16933 (rg_add h_16918 (rg_k (Int32.ofInt 1) 1 rfl) (by decide))
                  have uh_16934 := h_16934.1
                  have vh_16934 := h_16934.2
                  have tx_16933 : (x_16933).toInt = (x_16815).toInt + 1 := by rw [ex_16933]; exact i_add_rg (a2 := (x_16815).toInt) (b2 := 1) rfl rfl h_16918 (rg_k (Int32.ofInt 1) 1 rfl) (by decide)
                  refine lv_iinc (v := x_16933) (lv' := [(4, .int x_16933), (3, .int 1), (2, .int (I_16816 195 this)), (1, .int x_16931), (0, .ref this)]) hx hb dX6_takeWord_158 hl (k := 4) rfl ex_16933.symm (by decide) rfl (fun ls hl => ?_)
                  refine lv_goto (tgt := 57) hx hb dX6_takeWord_161 (by decide) ?_
                  exact ih_16901 x_16931 (I_16816 195 this) (1 : Int32) x_16933 I_16816 _ _ _ (rg_w h_16932 (by decide)) (rg_w (rg_k (1 : Int32) 1 rfl) (by decide)) (rg_w h_16934 (by decide)) (by have k0 : (1 : Int32).toInt = 1 := rfl; omega) (by have k0 : (1 : Int32).toInt = 1 := rfl; omega) (ms_up 1 hm_16898 ex_16933 rfl (by decide) h_16918 (by decide) (by decide)) hG hP hD hS (lv_sub hl [4, 3, 2, 1, 0] rfl)
                · have tc_16935 : (x_16814).toInt ≠ 0 := fun q => c_16928 (Int32.toInt_inj.mp q)
                  have h_16936 : rg x_16814 1 1 := rg_ne c_16928 h_16908 0 rfl (by decide)
                  have uh_16936 := h_16936.1
                  have vh_16936 := h_16936.2
                  refine lv_iload_n hx hb dX6_takeWord_132 rfl (lv_at hl 2 rfl) ?_
                  refine lv_aload_n hx hb dX6_takeWord_133 rfl (lv_at hl 0 rfl) ?_
                  refine pg_f (v := .int (I_16816 197 this)) (C := RX6) (T := TX6) (N := 6) hx hb hts (tw_i inlX6) hown hK hP hL_this hK_this (by decide) rfl 5 (by decide) (hts _ (tw_c tw_662)) rfl dX6_takeWord_134 ?_
                  have h_16937 : rg (I_16816 197 this) 0 300 := GX.rI hG 197 rfl
                  have uh_16937 := h_16937.1
                  have vh_16937 := h_16937.2
                  refine lv_icmp_ne (tgt := 148) hx hb dX6_takeWord_137 (by decide) (fun c_16938 => ?_) (fun c_16938 => ?_)
                  · have tc_16939 : (x_16813).toInt ≠ (I_16816 197 this).toInt := fun q => c_16938 (Int32.toInt_inj.mp q)
                    obtain ⟨x_16940, ex_16940⟩ : ∃ y : Int32, y = x_16812 + Int32.ofInt 1 := ⟨_, rfl⟩
                    refine lv_iinc (v := x_16940) (lv' := [(1, .int x_16940), (0, .ref this), (2, .int x_16813), (3, .int x_16814), (4, .int x_16815)]) hx hb dX6_takeWord_148 hl (k := 1) rfl ex_16940.symm (by decide) rfl (fun ls hl => ?_)
                    refine lv_aload_n hx hb dX6_takeWord_151 rfl (lv_at hl 1 rfl) ?_
                    refine pg_f (v := .int (I_16816 195 this)) (C := RX6) (T := TX6) (N := 6) hx hb hts (tw_i inlX6) hown hK hP hL_this hK_this (by decide) rfl 3 (by decide) (hts _ (tw_c tw_667)) rfl dX6_takeWord_152 ?_
                    have h_16941 : rg (I_16816 195 this) 0 300 := GX.rI hG 195 rfl
                    have uh_16941 := h_16941.1
                    have vh_16941 := h_16941.2
                    refine lv_istore_n (lv' := [(2, .int (I_16816 195 this)), (1, .int x_16940), (0, .ref this), (3, .int x_16814), (4, .int x_16815)]) hx hb dX6_takeWord_155 rfl hl (by decide) rfl (fun ls hl => ?_)
                    refine lv_iconst (v := 1) hx hb dX6_takeWord_156 (by decide) ?_
                    refine lv_istore_n (lv' := [(3, .int 1), (2, .int (I_16816 195 this)), (1, .int x_16940), (0, .ref this), (4, .int x_16815)]) hx hb dX6_takeWord_157 rfl hl (by decide) rfl (fun ls hl => ?_)
                    obtain ⟨x_16942, ex_16942⟩ : ∃ y : Int32, y = x_16815 + Int32.ofInt 1 := ⟨_, rfl⟩
                    have h_16943 : rg x_16942 1 94 := rg_of_eq ex_16942 (rg_add h_16918 (rg_k (Int32.ofInt 1) 1 rfl) (by decide))
                    have uh_16943 := h_16943.1
                    have vh_16943 := h_16943.2
                    have tx_16942 : (x_16942).toInt = (x_16815).toInt + 1 := by rw [ex_16942]; exact i_add_rg (a2 := (x_16815).toInt) (b2 := 1) rfl rfl h_16918 (rg_k (Int32.ofInt 1) 1 rfl) (by decide)
                    refine lv_iinc (v := x_16942) (lv' := [(4, .int x_16942), (3, .int 1), (2, .int (I_16816 195 this)), (1, .int x_16940), (0, .ref this)]) hx hb dX6_takeWord_158 hl (k := 4) rfl ex_16942.symm (by decide) rfl (fun ls hl => ?_)
                    refine lv_goto (tgt := 57) hx hb dX6_takeWord_161 (by decide) ?_
                    exact ih_16901 x_16940 (I_16816 195 this) (1 : Int32) x_16942 I_16816 _ _ _ (rg_w h_16941 (by decide)) (rg_w (rg_k (1 : Int32) 1 rfl) (by decide)) (rg_w h_16943 (by decide)) (by have k0 : (1 : Int32).toInt = 1 := rfl; omega) (by have k0 : (1 : Int32).toInt = 1 := rfl; omega) (ms_up 1 hm_16898 ex_16942 rfl (by decide) h_16918 (by decide) (by decide)) hG hP hD hS (lv_sub hl [4, 3, 2, 1, 0] rfl)
                  · have tc_16944 : (x_16813).toInt = (I_16816 197 this).toInt := congrArg Int32.toInt c_16938
                    have h_16945 : rg x_16813 0 300 := rg_and h_16907 (rg_of_eq c_16938 h_16937) (by decide)
                    have uh_16945 := h_16945.1
                    have vh_16945 := h_16945.2
                    refine lv_aload_n hx hb dX6_takeWord_140 rfl (lv_at hl 0 rfl) ?_
                    refine lv_iload_n hx hb dX6_takeWord_141 rfl (lv_at hl 1 rfl) ?_
                    refine pp_i (v := x_16812) (ty := .int) (C := RX6) (T := TX6) (N := 6) hx hb hts (tw_i inlX6) tyX6 tyX6_ok nmX6 hown hK hP hD hS hL_this hK_this (by decide) rfl 2 194 (by decide) (hts _ (tw_c tw_668)) rfl (tyX6_ok 2 (by decide)) rfl rfl (Nat.le_of_ble_eq_true rfl) (ps_194 _ _ _ _ _) dX6_takeWord_142 (fun I_16946 H locs eI_16946 hP hD hS => ?_)
                    have hG := GX.wI hG 194 rfl eI_16946 (rg_w (rg_full _) (by decide)) (by decide)
                    have tt_16947 : (I_16946 197 this).toInt = (I_16816 197 this).toInt := by rw [eI_16946, pq_uf _ _ _ (by decide)]
                    have tt_16948 : (I_16946 193 this).toInt = (I_16816 193 this).toInt := by rw [eI_16946, pq_uf _ _ _ (by decide)]
                    have tt_16949 : (I_16946 194 this).toInt = (x_16812).toInt := by rw [eI_16946, pq_us]
                    refine lv_goto (tgt := 158) hx hb dX6_takeWord_145 (by decide) ?_
                    obtain ⟨x_16950, ex_16950⟩ : ∃ y : Int32, y = x_16815 + Int32.ofInt 1 := ⟨_, rfl⟩
                    have h_16951 : rg x_16950 1 94 := rg_of_eq ex_16950 (rg_add h_16918 (rg_k (Int32.ofInt 1) 1 rfl) (by decide))
                    have uh_16951 := h_16951.1
                    have vh_16951 := h_16951.2
                    have tx_16950 : (x_16950).toInt = (x_16815).toInt + 1 := by rw [ex_16950]; exact i_add_rg (a2 := (x_16815).toInt) (b2 := 1) rfl rfl h_16918 (rg_k (Int32.ofInt 1) 1 rfl) (by decide)
                    refine lv_iinc (v := x_16950) (lv' := [(4, .int x_16950), (0, .ref this), (1, .int x_16812), (2, .int x_16813), (3, .int x_16814)]) hx hb dX6_takeWord_158 hl (k := 4) rfl ex_16950.symm (by decide) rfl (fun ls hl => ?_)
                    refine lv_goto (tgt := 57) hx hb dX6_takeWord_161 (by decide) ?_
                    exact ih_16901 x_16812 x_16813 x_16814 x_16950 I_16946 _ _ _ (rg_w h_16945 (by decide)) (rg_w h_16936 (by decide)) (rg_w h_16951 (by decide)) (by omega) (by omega) (ms_up 1 hm_16898 ex_16950 rfl (by decide) h_16918 (by decide) (by decide)) hG hP hD hS (lv_sub hl [1, 2, 3, 4, 0] rfl)
              · have tc_16952 : (x_16923).toInt ≠ 32 := fun q => c_16925 (Int32.toInt_inj.mp q)
                refine lv_iload_n hx hb dX6_takeWord_88 rfl (lv_at hl 3 rfl) ?_
                refine lv_if_eq (tgt := 120) hx hb dX6_takeWord_89 (by decide) (fun c_16953 => ?_) (fun c_16953 => ?_)
                · have tc_16954 : (x_16814).toInt = 0 := congrArg Int32.toInt c_16953
                  have h_16955 : rg x_16814 0 0 := rg_and h_16908 (rg_of_eq c_16953 (rg_k (0 : Int32) 0 rfl)) (by decide)
                  have uh_16955 := h_16955.1
                  have vh_16955 := h_16955.2
                  refine lv_iconst (v := 0) hx hb dX6_takeWord_120 (by decide) ?_
                  refine lv_istore_n (lv' := [(3, .int 0), (0, .ref this), (1, .int x_16812), (2, .int x_16813), (4, .int x_16815)]) hx hb dX6_takeWord_121 rfl hl (by decide) rfl (fun ls hl => ?_)
                  have h_16956 : rg x_16813 0 393 := ⟨by omega, by omega⟩
                  have uh_16956 := h_16956.1
                  have vh_16956 := h_16956.2
                  obtain ⟨x_16957, ex_16957⟩ : ∃ y : Int32, y = x_16813 + Int32.ofInt 1 := ⟨_, rfl⟩
                  have h_16958 : rg x_16957 1 394 := rg_of_eq ex_16957 (rg_add h_16956 (rg_k (Int32.ofInt 1) 1 rfl) (by decide))
                  have uh_16958 := h_16958.1
                  have vh_16958 := h_16958.2
                  have tx_16957 : (x_16957).toInt = (x_16813).toInt + 1 := by rw [ex_16957]; exact i_add_rg (a2 := (x_16813).toInt) (b2 := 1) rfl rfl h_16956 (rg_k (Int32.ofInt 1) 1 rfl) (by decide)
                  refine lv_iinc (v := x_16957) (lv' := [(2, .int x_16957), (3, .int 0), (0, .ref this), (1, .int x_16812), (4, .int x_16815)]) hx hb dX6_takeWord_122 hl (k := 3) rfl ex_16957.symm (by decide) rfl (fun ls hl => ?_)
                  refine lv_goto (tgt := 158) hx hb dX6_takeWord_125 (by decide) ?_
                  obtain ⟨x_16959, ex_16959⟩ : ∃ y : Int32, y = x_16815 + Int32.ofInt 1 := ⟨_, rfl⟩
                  have h_16960 : rg x_16959 1 94 := rg_of_eq ex_16959 (rg_add h_16918 (rg_k (Int32.ofInt 1) 1 rfl) (by decide))
                  have uh_16960 := h_16960.1
                  have vh_16960 := h_16960.2
                  have tx_16959 : (x_16959).toInt = (x_16815).toInt + 1 := by rw [ex_16959]; exact i_add_rg (a2 := (x_16815).toInt) (b2 := 1) rfl rfl h_16918 (rg_k (Int32.ofInt 1) 1 rfl) (by decide)
                  refine lv_iinc (v := x_16959) (lv' := [(4, .int x_16959), (2, .int x_16957), (3, .int 0), (0, .ref this), (1, .int x_16812)]) hx hb dX6_takeWord_158 hl (k := 4) rfl ex_16959.symm (by decide) rfl (fun ls hl => ?_)
                  refine lv_goto (tgt := 57) hx hb dX6_takeWord_161 (by decide) ?_
                  exact ih_16901 x_16812 x_16957 (0 : Int32) x_16959 I_16816 _ _ _ (rg_w h_16958 (by decide)) (rg_w (rg_k (0 : Int32) 0 rfl) (by decide)) (rg_w h_16960 (by decide)) (by have k0 : (0 : Int32).toInt = 0 := rfl; omega) (by have k0 : (0 : Int32).toInt = 0 := rfl; omega) (ms_up 1 hm_16898 ex_16959 rfl (by decide) h_16918 (by decide) (by decide)) hG hP hD hS (lv_sub hl [3, 4, 1, 2, 0] rfl)
                · have tc_16961 : (x_16814).toInt ≠ 0 := fun q => c_16953 (Int32.toInt_inj.mp q)
                  have h_16962 : rg x_16814 1 1 := rg_ne c_16953 h_16908 0 rfl (by decide)
                  have uh_16962 := h_16962.1
                  have vh_16962 := h_16962.2
                  refine lv_iload_n hx hb dX6_takeWord_92 rfl (lv_at hl 2 rfl) ?_
                  refine lv_aload_n hx hb dX6_takeWord_93 rfl (lv_at hl 0 rfl) ?_
                  refine pg_f (v := .int (I_16816 197 this)) (C := RX6) (T := TX6) (N := 6) hx hb hts (tw_i inlX6) hown hK hP hL_this hK_this (by decide) rfl 5 (by decide) (hts _ (tw_c tw_662)) rfl dX6_takeWord_94 ?_
                  have h_16963 : rg (I_16816 197 this) 0 300 := GX.rI hG 197 rfl
                  have uh_16963 := h_16963.1
                  have vh_16963 := h_16963.2
                  refine lv_icmp_ge (tgt := 120) hx hb dX6_takeWord_97 (by decide) (fun c_16964 => ?_) (fun c_16964 => ?_)
                  · have tc_16965 : (I_16816 197 this).toInt ≤ (x_16813).toInt := Int32.le_iff_toInt_le.mp c_16964
                    refine lv_iconst (v := 0) hx hb dX6_takeWord_120 (by decide) ?_
                    refine lv_istore_n (lv' := [(3, .int 0), (0, .ref this), (1, .int x_16812), (2, .int x_16813), (4, .int x_16815)]) hx hb dX6_takeWord_121 rfl hl (by decide) rfl (fun ls hl => ?_)
                    have h_16966 : rg x_16813 0 393 := ⟨by omega, by omega⟩
                    have uh_16966 := h_16966.1
                    have vh_16966 := h_16966.2
                    obtain ⟨x_16967, ex_16967⟩ : ∃ y : Int32, y = x_16813 + Int32.ofInt 1 := ⟨_, rfl⟩
                    have h_16968 : rg x_16967 1 394 := rg_of_eq ex_16967 (rg_add h_16966 (rg_k (Int32.ofInt 1) 1 rfl) (by decide))
                    have uh_16968 := h_16968.1
                    have vh_16968 := h_16968.2
                    have tx_16967 : (x_16967).toInt = (x_16813).toInt + 1 := by rw [ex_16967]; exact i_add_rg (a2 := (x_16813).toInt) (b2 := 1) rfl rfl h_16966 (rg_k (Int32.ofInt 1) 1 rfl) (by decide)
                    refine lv_iinc (v := x_16967) (lv' := [(2, .int x_16967), (3, .int 0), (0, .ref this), (1, .int x_16812), (4, .int x_16815)]) hx hb dX6_takeWord_122 hl (k := 3) rfl ex_16967.symm (by decide) rfl (fun ls hl => ?_)
                    refine lv_goto (tgt := 158) hx hb dX6_takeWord_125 (by decide) ?_
                    obtain ⟨x_16969, ex_16969⟩ : ∃ y : Int32, y = x_16815 + Int32.ofInt 1 := ⟨_, rfl⟩
                    have h_16970 : rg x_16969 1 94 := rg_of_eq ex_16969 (rg_add h_16918 (rg_k (Int32.ofInt 1) 1 rfl) (by decide))
                    have uh_16970 := h_16970.1
                    have vh_16970 := h_16970.2
                    have tx_16969 : (x_16969).toInt = (x_16815).toInt + 1 := by rw [ex_16969]; exact i_add_rg (a2 := (x_16815).toInt) (b2 := 1) rfl rfl h_16918 (rg_k (Int32.ofInt 1) 1 rfl) (by decide)
                    refine lv_iinc (v := x_16969) (lv' := [(4, .int x_16969), (2, .int x_16967), (3, .int 0), (0, .ref this), (1, .int x_16812)]) hx hb dX6_takeWord_158 hl (k := 4) rfl ex_16969.symm (by decide) rfl (fun ls hl => ?_)
                    refine lv_goto (tgt := 57) hx hb dX6_takeWord_161 (by decide) ?_
                    exact ih_16901 x_16812 x_16967 (0 : Int32) x_16969 I_16816 _ _ _ (rg_w h_16968 (by decide)) (rg_w (rg_k (0 : Int32) 0 rfl) (by decide)) (rg_w h_16970 (by decide)) (by have k0 : (0 : Int32).toInt = 0 := rfl; omega) (by have k0 : (0 : Int32).toInt = 0 := rfl; omega) (ms_up 1 hm_16898 ex_16969 rfl (by decide) h_16918 (by decide) (by decide)) hG hP hD hS (lv_sub hl [3, 4, 1, 2, 0] rfl)
                  · have tc_16971 : (x_16813).toInt < (I_16816 197 this).toInt := Int32.lt_iff_toInt_lt.mp (nle c_16964)
                    have h_16972 : rg x_16813 0 299 := rg_lt1 (nle c_16964) h_16907 h_16963 (by decide)
                    have uh_16972 := h_16972.1
                    have vh_16972 := h_16972.2
                    have h_16973 : rg (I_16816 197 this) 1 300 := rg_lt2 (nle c_16964) h_16907 h_16963 (by decide)
                    have uh_16973 := h_16973.1
                    have vh_16973 := h_16973.2
                    refine lv_aload_n hx hb dX6_takeWord_100 rfl (lv_at hl 0 rfl) ?_
                    refine pg_f (v := .ref this_tape) (C := RX6) (T := TX6) (N := 6) hx hb hts (tw_i inlX6) hown hK hP hL_this hK_this (by decide) rfl 0 (by decide) (hts _ (tw_c tw_165)) (pq_hv rfl hR_this_tape) dX6_takeWord_101 ?_
                    refine lv_iload_n hx hb dX6_takeWord_104 rfl (lv_at hl 2 rfl) ?_
                    refine pl_i hx hb hK hP hL_this_tape hK_this_tape hN_this_tape (rg_in h_16972 (by decide)) dX6_takeWord_105 ?_
                    refine lv_topi (fun x_16974 ex_16974 => ?_)
                    refine va_ldcS hx hb hown hW0.2.2.2.2.2.2.2 dX6_takeWord_106 ?_
                    refine lv_iload hx hb dX6_takeWord_108 (lv_at hl 4 rfl) ?_
                    refine pk_i (va_runV (As := [.int x_16815]) (rest := [.int x_16974]) ⟨hx, hb, hml, hown, hts⟩ (s_J0_charAt l D t σ I_16816 J ri rj rq H.size aK aV vF x_16815 (Int32.not_lt.mpr (Int32.le_iff_toInt_le.mpr (by have z8 := (h_16918).1; have z9 : (0 : Int32).toInt = 0 := rfl; omega))) (Int32.lt_iff_toInt_lt.mpr (by have z8 := (h_16918).2; have z9 : (94 : Int32).toInt = 94 := rfl; omega))) (cwV 1 hts (tw_V tw_697 tw_698 tw_699 tw_688 tw_700) rfl rfl rfl cv_yJ0_charAt_5068e_1 ⟨Nat.le_of_ble_eq_true rfl, Nat.le_of_ble_eq_true rfl⟩) ⟨pq_blindS, pq_recvS hW0 hS, pq_preS hK hN hP hD hS hA hW0⟩ rfl rfl hl.1 rfl (lv_room (Nat.le_of_ble_eq_true rfl)) dX6_takeWord_110 ⟨Nat.le_of_ble_eq_true rfl, Nat.le_of_ble_eq_true rfl⟩) hD hS hA (fun x_16975 σ1 μ1 H locs hw_16976 hP hD hS => ?_)
                    obtain ⟨hux_16975, hvx_16975⟩ := hw_16976
                    obtain ⟨huax_16975, hubx_16975⟩ := Prod.mk.inj hux_16975
                    rw [huax_16975, hubx_16975] at hP hD
                    refine lv_icmp_ne (tgt := 120) hx hb dX6_takeWord_113 (by decide) (fun c_16977 => ?_) (fun c_16977 => ?_)
                    · have tc_16978 : (x_16974).toInt ≠ (x_16975).toInt := fun q => c_16977 (Int32.toInt_inj.mp q)
                      refine lv_iconst (v := 0) hx hb dX6_takeWord_120 (by decide) ?_
                      refine lv_istore_n (lv' := [(3, .int 0), (0, .ref this), (1, .int x_16812), (2, .int x_16813), (4, .int x_16815)]) hx hb dX6_takeWord_121 rfl hl (by decide) rfl (fun ls hl => ?_)
                      obtain ⟨x_16979, ex_16979⟩ : ∃ y : Int32, y = x_16813 + Int32.ofInt 1 := ⟨_, rfl⟩
                      have h_16980 : rg x_16979 1 300 := rg_of_eq ex_16979 (rg_add h_16972 (rg_k (Int32.ofInt 1) 1 rfl) (by decide))
                      have uh_16980 := h_16980.1
                      have vh_16980 := h_16980.2
                      have tx_16979 : (x_16979).toInt = (x_16813).toInt + 1 := by rw [ex_16979]; exact i_add_rg (a2 := (x_16813).toInt) (b2 := 1) rfl rfl h_16972 (rg_k (Int32.ofInt 1) 1 rfl) (by decide)
                      refine lv_iinc (v := x_16979) (lv' := [(2, .int x_16979), (3, .int 0), (0, .ref this), (1, .int x_16812), (4, .int x_16815)]) hx hb dX6_takeWord_122 hl (k := 3) rfl ex_16979.symm (by decide) rfl (fun ls hl => ?_)
                      refine lv_goto (tgt := 158) hx hb dX6_takeWord_125 (by decide) ?_
                      obtain ⟨x_16981, ex_16981⟩ : ∃ y : Int32, y = x_16815 + Int32.ofInt 1 := ⟨_, rfl⟩
                      have h_16982 : rg x_16981 1 94 := rg_of_eq ex_16981 (rg_add h_16918 (rg_k (Int32.ofInt 1) 1 rfl) (by decide))
                      have uh_16982 := h_16982.1
                      have vh_16982 := h_16982.2
                      have tx_16981 : (x_16981).toInt = (x_16815).toInt + 1 := by rw [ex_16981]; exact i_add_rg (a2 := (x_16815).toInt) (b2 := 1) rfl rfl h_16918 (rg_k (Int32.ofInt 1) 1 rfl) (by decide)
                      refine lv_iinc (v := x_16981) (lv' := [(4, .int x_16981), (2, .int x_16979), (3, .int 0), (0, .ref this), (1, .int x_16812)]) hx hb dX6_takeWord_158 hl (k := 4) rfl ex_16981.symm (by decide) rfl (fun ls hl => ?_)
                      refine lv_goto (tgt := 57) hx hb dX6_takeWord_161 (by decide) ?_
                      exact ih_16901 x_16812 x_16979 (0 : Int32) x_16981 I_16816 _ _ _ (rg_w h_16980 (by decide)) (rg_w (rg_k (0 : Int32) 0 rfl) (by decide)) (rg_w h_16982 (by decide)) (by have k0 : (0 : Int32).toInt = 0 := rfl; omega) (by have k0 : (0 : Int32).toInt = 0 := rfl; omega) (ms_up 1 hm_16898 ex_16981 rfl (by decide) h_16918 (by decide) (by decide)) hG hP hD hS (lv_sub hl [3, 4, 1, 2, 0] rfl)
                    · have tc_16983 : (x_16974).toInt = (x_16975).toInt := congrArg Int32.toInt c_16977
                      refine lv_iconst (v := 1) hx hb dX6_takeWord_116 (by decide) ?_
                      refine lv_goto (tgt := 121) hx hb dX6_takeWord_117 (by decide) ?_
                      refine lv_istore_n (lv' := [(3, .int 1), (0, .ref this), (1, .int x_16812), (2, .int x_16813), (4, .int x_16815)]) hx hb dX6_takeWord_121 rfl hl (by decide) rfl (fun ls hl => ?_)
                      obtain ⟨x_16984, ex_16984⟩ : ∃ y : Int32, y = x_16813 + Int32.ofInt 1 := ⟨_, rfl⟩
                      have h_16985 : rg x_16984 1 300 := rg_of_eq ex_16984 (rg_add h_16972 (rg_k (Int32.ofInt 1) 1 rfl) (by decide))
                      have uh_16985 := h_16985.1
                      have vh_16985 := h_16985.2
                      have tx_16984 : (x_16984).toInt = (x_16813).toInt + 1 := by rw [ex_16984]; exact i_add_rg (a2 := (x_16813).toInt) (b2 := 1) rfl rfl h_16972 (rg_k (Int32.ofInt 1) 1 rfl) (by decide)
                      refine lv_iinc (v := x_16984) (lv' := [(2, .int x_16984), (3, .int 1), (0, .ref this), (1, .int x_16812), (4, .int x_16815)]) hx hb dX6_takeWord_122 hl (k := 3) rfl ex_16984.symm (by decide) rfl (fun ls hl => ?_)
                      refine lv_goto (tgt := 158) hx hb dX6_takeWord_125 (by decide) ?_
                      obtain ⟨x_16986, ex_16986⟩ : ∃ y : Int32, y = x_16815 + Int32.ofInt 1 := ⟨_, rfl⟩
                      have h_16987 : rg x_16986 1 94 := rg_of_eq ex_16986 (rg_add h_16918 (rg_k (Int32.ofInt 1) 1 rfl) (by decide))
                      have uh_16987 := h_16987.1
                      have vh_16987 := h_16987.2
                      have tx_16986 : (x_16986).toInt = (x_16815).toInt + 1 := by rw [ex_16986]; exact i_add_rg (a2 := (x_16815).toInt) (b2 := 1) rfl rfl h_16918 (rg_k (Int32.ofInt 1) 1 rfl) (by decide)
                      refine lv_iinc (v := x_16986) (lv' := [(4, .int x_16986), (2, .int x_16984), (3, .int 1), (0, .ref this), (1, .int x_16812)]) hx hb dX6_takeWord_158 hl (k := 4) rfl ex_16986.symm (by decide) rfl (fun ls hl => ?_)
                      refine lv_goto (tgt := 57) hx hb dX6_takeWord_161 (by decide) ?_
                      exact ih_16901 x_16812 x_16984 (1 : Int32) x_16986 I_16816 _ _ _ (rg_w h_16985 (by decide)) (rg_w (rg_k (1 : Int32) 1 rfl) (by decide)) (rg_w h_16987 (by decide)) (by have k0 : (1 : Int32).toInt = 1 := rfl; omega) (by have k0 : (1 : Int32).toInt = 1 := rfl; omega) (ms_up 1 hm_16898 ex_16986 rfl (by decide) h_16918 (by decide) (by decide)) hG hP hD hS (lv_sub hl [3, 4, 1, 2, 0] rfl)
      exact L_16900 _ (0 : Int32) (I_14583 195 this) (1 : Int32) (0 : Int32) I_14583 _ _ _ (rg_w h_14587 (by decide)) (rg_w (rg_k (1 : Int32) 1 rfl) (by decide)) (rg_w (rg_k (0 : Int32) 0 rfl) (by decide)) (by have k0 : (0 : Int32).toInt = 0 := rfl; have k1 : (1 : Int32).toInt = 1 := rfl; omega) (by have k0 : (0 : Int32).toInt = 0 := rfl; have k1 : (1 : Int32).toInt = 1 := rfl; omega) (Nat.lt_succ_self _) hG hP hD hS (lv_sub hl [4, 3, 2, 1, 0] rfl)
    refine lv_icmp_ge (tgt := 39) hx hb dX6_takeWord_8 (by decide) (fun c_16988 => ?_) (fun c_16988 => ?_)
    · have tc_16989 : (I 193 this).toInt ≤ (I 197 this).toInt := Int32.le_iff_toInt_le.mp c_16988
      exact K_14580 _ _ _ (by omega) hG hP hD hS (lv_sub hl [0] rfl)
    · have tc_16990 : (I 197 this).toInt < (I 193 this).toInt := Int32.lt_iff_toInt_lt.mp (nle c_16988)
      have h_16991 : rg (I 197 this) 0 299 := rg_lt1 (nle c_16988) h_1 h_2 (by decide)
      have uh_16991 := h_16991.1
      have vh_16991 := h_16991.2
      have h_16992 : rg (I 193 this) 1 300 := rg_lt2 (nle c_16988) h_1 h_2 (by decide)
      have uh_16992 := h_16992.1
      have vh_16992 := h_16992.2
      refine lv_aload_n hx hb dX6_takeWord_11 rfl (lv_at hl 0 rfl) ?_
      refine pg_f (v := .ref this_tape) (C := RX6) (T := TX6) (N := 6) hx hb hts (tw_i inlX6) hown hK hP hL_this hK_this (by decide) rfl 0 (by decide) (hts _ (tw_c tw_165)) (pq_hv rfl hR_this_tape) dX6_takeWord_12 ?_
      refine lv_aload_n hx hb dX6_takeWord_15 rfl (lv_at hl 0 rfl) ?_
      refine pg_f (v := .int (I 197 this)) (C := RX6) (T := TX6) (N := 6) hx hb hts (tw_i inlX6) hown hK hP hL_this hK_this (by decide) rfl 5 (by decide) (hts _ (tw_c tw_662)) rfl dX6_takeWord_16 ?_
      refine pl_i hx hb hK hP hL_this_tape hK_this_tape hN_this_tape (rg_in h_16991 (by decide)) dX6_takeWord_19 ?_
      refine lv_topi (fun x_16993 ex_16993 => ?_)
      have tt_16994 : (I 197 this).toInt = (I 197 this).toInt → (x_16993).toInt = (ri this_tape (I 197 this).toNatClampNeg).toInt := fun q => by rw [ex_16993, Int32.toInt_inj.mp q]
      refine pk_i (va_runS (As := [.int x_16993]) (rest := []) ⟨hx, hb, hml, hown, hts⟩ (s_X6_isLetter_x l D t σ I J ri rj rq H.size tg hSH hG.1 x_16993) (va_cwS 1 hts (tw_S tw_678 tw_679 tw_153 tw_680) rfl rfl rfl cd_yX6_isLetter_1 ⟨Nat.le_of_ble_eq_true rfl, Nat.le_of_ble_eq_true rfl⟩) ⟨pq_blind, pq_pre hK hN hP hD⟩ rfl rfl hl.1 rfl (lv_room (Nat.le_of_ble_eq_true rfl)) dX6_takeWord_20 ⟨Nat.le_of_ble_eq_true rfl, Nat.le_of_ble_eq_true rfl⟩) hD hS hA (fun x_16995 σ1 μ1 H locs hw_16996 hP hD hS => ?_)
      obtain ⟨hu_16997, hr_16999⟩ := hw_16996
      obtain ⟨hu_16997a, hu_16997b⟩ := Prod.mk.inj hu_16997
      rw [hu_16997a, hu_16997b] at hP hD
      have h_17000 : rg x_16995 0 1 := by rcases hr_16999 with ⟨q, -⟩ | ⟨q, -⟩ <;> rw [q] <;> exact ⟨by decide, by decide⟩
      have uh_17000 := h_17000.1
      have vh_17000 := h_17000.2
      refine lv_if_eq (tgt := 39) hx hb dX6_takeWord_23 (by decide) (fun c_17001 => ?_) (fun c_17001 => ?_)
      · have f_17002 := (hr_16999.resolve_left (fun q => absurd (q.1.symm.trans c_17001) (by decide))).2
        have tc_17003 : (x_16995).toInt = 0 := congrArg Int32.toInt c_17001
        have h_17004 : rg x_16995 0 0 := rg_and h_17000 (rg_of_eq c_17001 (rg_k (0 : Int32) 0 rfl)) (by decide)
        have uh_17004 := h_17004.1
        have vh_17004 := h_17004.2
        exact K_14580 _ _ _ (by omega) hG hP hD hS (lv_sub hl [0] rfl)
      · obtain ⟨f_17005, f_17006⟩ := (hr_16999.resolve_right (fun q => c_17001 q.1)).2
        have uf_17005 := f_17005.1
        have vf_17005 := f_17005.2
        have tc_17007 : (x_16995).toInt ≠ 0 := fun q => c_17001 (Int32.toInt_inj.mp q)
        have h_17008 : rg x_16995 1 1 := rg_ne c_17001 h_17000 0 rfl (by decide)
        have uh_17008 := h_17008.1
        have vh_17008 := h_17008.2
        refine lv_aload_n hx hb dX6_takeWord_26 rfl (lv_at hl 0 rfl) ?_
        refine lv_dup hx hb dX6_takeWord_27 rfl ?_
        refine pg_f (v := .int (I 197 this)) (C := RX6) (T := TX6) (N := 6) hx hb hts (tw_i inlX6) hown hK hP hL_this hK_this (by decide) rfl 5 (by decide) (hts _ (tw_c tw_662)) rfl dX6_takeWord_28 ?_
        refine lv_iconst (v := 1) hx hb dX6_takeWord_31 (by decide) ?_
        refine lv_iadd hx hb dX6_takeWord_32 ?_
        refine lv_topi (fun x_17009 ex_17009 => ?_)
        have h_17010 : rg x_17009 1 300 := rg_of_eq ex_17009 (rg_add h_16991 (rg_k (1 : Int32) 1 rfl) (by decide))
        have uh_17010 := h_17010.1
        have vh_17010 := h_17010.2
        have tx_17009 : (x_17009).toInt = (I 197 this).toInt + 1 := by rw [ex_17009]; exact i_add_rg (a2 := (I 197 this).toInt) (b2 := 1) rfl rfl h_16991 (rg_k (1 : Int32) 1 rfl) (by decide)
        refine pp_i (v := x_17009) (ty := .int) (C := RX6) (T := TX6) (N := 6) hx hb hts (tw_i inlX6) tyX6 tyX6_ok nmX6 hown hK hP hD hS hL_this hK_this (by decide) rfl 5 197 (by decide) (hts _ (tw_c tw_662)) rfl (tyX6_ok 5 (by decide)) rfl rfl (Nat.le_of_ble_eq_true rfl) (ps_197 _ _ _ _ _) dX6_takeWord_33 (fun I_17011 H locs eI_17011 hP hD hS => ?_)
        have hG := GX.wI hG 197 rfl eI_17011 (rg_w h_17010 (by decide)) (by decide)
        have tt_17012 : (I_17011 197 this).toInt = (x_17009).toInt := by rw [eI_17011, pq_us]
        have tt_17013 : (I_17011 193 this).toInt = (I 193 this).toInt := by rw [eI_17011, pq_uf _ _ _ (by decide)]
        have tt_17014 : (I_17011 194 this).toInt = (I 194 this).toInt := by rw [eI_17011, pq_uf _ _ _ (by decide)]
        refine lv_goto (tgt := 0) hx hb dX6_takeWord_36 (by decide) ?_
        have L_26737 : ∀ (n_26736 : Nat) (I_24305 : Nat → Nat → Int32) (H : Heap) (locs : List Loc) (ls : Array Slot), ((I 197 this).toInt ≤ (I_24305 197 this).toInt ∧ (I_24305 193 this).toInt = (I 193 this).toInt) → (300 - (I_24305 197 this).toInt).toNat < n_26736 → GX [197, 194] tg σ I ri rj I_24305 ri rj rq → va_P D vwCl (pq_P t σ (I_24305, J, ri, rj, rq)) H → va_D A (pq_P t σ (I_24305, J, ri, rj, rq)) → va_S A s.heap H locs → lv_has ls 5 [(0, .ref this)] → W p l e ({ frames := 4, cells := 0, slots := 0, locals := 85 } : Room) s m (List.toArray ([.ref this] : List Value)) below meth c H locs 0 0 Q (F0 m 0 ls []) := by
          intro n_26736
          induction n_26736 with
          | zero => intro I_24305 H locs ls hrel_26740 hm_26735 hG hP hD hS hl; exact absurd hm_26735 (Nat.not_lt_zero _)
          | succ n_26736 ih_26738 =>
            intro I_24305 H locs ls hrel_26740 hm_26735 hG hP hD hS hl
            refine lv_aload_n hx hb dX6_takeWord_0 rfl (lv_at hl 0 rfl) ?_
            refine pg_f (v := .int (I_24305 197 this)) (C := RX6) (T := TX6) (N := 6) hx hb hts (tw_i inlX6) hown hK hP hL_this hK_this (by decide) rfl 5 (by decide) (hts _ (tw_c tw_662)) rfl dX6_takeWord_1 ?_
            have h_26741 : rg (I_24305 197 this) 0 300 := GX.rI hG 197 rfl
            have uh_26741 := h_26741.1
            have vh_26741 := h_26741.2
            refine lv_aload_n hx hb dX6_takeWord_4 rfl (lv_at hl 0 rfl) ?_
            refine pg_f (v := .int (I_24305 193 this)) (C := RX6) (T := TX6) (N := 6) hx hb hts (tw_i inlX6) hown hK hP hL_this hK_this (by decide) rfl 1 (by decide) (hts _ (tw_c tw_626)) rfl dX6_takeWord_5 ?_
            have h_26742 : rg (I_24305 193 this) 1 300 := (by rw [hG.2.1 193 (by decide) (by decide)]; exact h_16992)
            have uh_26742 := h_26742.1
            have vh_26742 := h_26742.2
            have K_29169 : ∀  (H : Heap) (locs : List Loc) (ls : Array Slot), ((I 197 this).toInt + 1 ≤ (I_24305 197 this).toInt) → GX [197, 194] tg σ I ri rj I_24305 ri rj rq → va_P D vwCl (pq_P t σ (I_24305, J, ri, rj, rq)) H → va_D A (pq_P t σ (I_24305, J, ri, rj, rq)) → va_S A s.heap H locs → lv_has ls 5 [(0, .ref this)] → W p l e ({ frames := 4, cells := 0, slots := 0, locals := 85 } : Room) s m (List.toArray ([.ref this] : List Value)) below meth c H locs 0 0 Q (F0 m 39 ls []) := by
              intro H locs ls hrel_29171 hG hP hD hS hl
              refine lv_aload_n hx hb dX6_takeWord_39 rfl (lv_at hl 0 rfl) ?_
              refine lv_bipush (v := 34) hx hb dX6_takeWord_40 (by decide) ?_
              refine pp_i (v := 34) (ty := .int) (C := RX6) (T := TX6) (N := 6) hx hb hts (tw_i inlX6) tyX6 tyX6_ok nmX6 hown hK hP hD hS hL_this hK_this (by decide) rfl 2 194 (by decide) (hts _ (tw_c tw_668)) rfl (tyX6_ok 2 (by decide)) rfl rfl (Nat.le_of_ble_eq_true rfl) (ps_194 _ _ _ _ _) dX6_takeWord_42 (fun I_29172 H locs eI_29172 hP hD hS => ?_)
              have hG := GX.wI hG 194 rfl eI_29172 (rg_w (rg_k (34 : Int32) 34 rfl) (by decide)) (by decide)
              have tt_29173 : (I_29172 197 this).toInt = (I_24305 197 this).toInt := by rw [eI_29172, pq_uf _ _ _ (by decide)]
              have tt_29174 : (I_29172 193 this).toInt = (I_24305 193 this).toInt := by rw [eI_29172, pq_uf _ _ _ (by decide)]
              have tt_29175 : (I_29172 194 this).toInt = 34 := by rw [eI_29172, pq_us]; rfl
              refine lv_iconst (v := 0) hx hb dX6_takeWord_45 (by decide) ?_
              refine lv_istore_n (lv' := [(1, .int 0), (0, .ref this)]) hx hb dX6_takeWord_46 rfl hl (by decide) rfl (fun ls hl => ?_)
              refine lv_aload_n hx hb dX6_takeWord_47 rfl (lv_at hl 1 rfl) ?_
              refine pg_f (v := .int (I_29172 195 this)) (C := RX6) (T := TX6) (N := 6) hx hb hts (tw_i inlX6) hown hK hP hL_this hK_this (by decide) rfl 3 (by decide) (hts _ (tw_c tw_667)) rfl dX6_takeWord_48 ?_
              have h_29176 : rg (I_29172 195 this) 0 300 := GX.rI hG 195 rfl
              have uh_29176 := h_29176.1
              have vh_29176 := h_29176.2
              refine lv_istore_n (lv' := [(2, .int (I_29172 195 this)), (1, .int 0), (0, .ref this)]) hx hb dX6_takeWord_51 rfl hl (by decide) rfl (fun ls hl => ?_)
              refine lv_iconst (v := 1) hx hb dX6_takeWord_52 (by decide) ?_
              refine lv_istore_n (lv' := [(3, .int 1), (2, .int (I_29172 195 this)), (1, .int 0), (0, .ref this)]) hx hb dX6_takeWord_53 rfl hl (by decide) rfl (fun ls hl => ?_)
              refine lv_iconst (v := 0) hx hb dX6_takeWord_54 (by decide) ?_
              refine lv_istore (lv' := [(4, .int 0), (3, .int 1), (2, .int (I_29172 195 this)), (1, .int 0), (0, .ref this)]) hx hb dX6_takeWord_55 hl (by decide) rfl (fun ls hl => ?_)
              have L_31489 : ∀ (n_31488 : Nat) (x_31401 : Int32) (x_31402 : Int32) (x_31403 : Int32) (x_31404 : Int32) (I_31405 : Nat → Nat → Int32) (H : Heap) (locs : List Loc) (ls : Array Slot), rg x_31402 0 394 → rg x_31403 0 1 → rg x_31404 0 94 → ((I 197 this).toInt + 1 ≤ (I_31405 197 this).toInt) → (0 ≤ (x_31402).toInt ∧ (x_31402).toInt ≤ 300 + (x_31404).toInt) → (94 - (x_31404).toInt).toNat < n_31488 → GX [197, 194] tg σ I ri rj I_31405 ri rj rq → va_P D vwCl (pq_P t σ (I_31405, J, ri, rj, rq)) H → va_D A (pq_P t σ (I_31405, J, ri, rj, rq)) → va_S A s.heap H locs → lv_has ls 5 [(0, .ref this), (1, .int x_31401), (2, .int x_31402), (3, .int x_31403), (4, .int x_31404)] → W p l e ({ frames := 4, cells := 0, slots := 0, locals := 85 } : Room) s m (List.toArray ([.ref this] : List Value)) below meth c H locs 0 0 Q (F0 m 57 ls []) := by
                intro n_31488
                induction n_31488 with
                | zero => intro x_31401 x_31402 x_31403 x_31404 I_31405 H locs ls h_31496 h_31497 h_31498 hrel_31499 hrel_31500 hm_31487 hG hP hD hS hl; exact absurd hm_31487 (Nat.not_lt_zero _)
                | succ n_31488 ih_31490 =>
                  intro x_31401 x_31402 x_31403 x_31404 I_31405 H locs ls h_31496 h_31497 h_31498 hrel_31499 hrel_31500 hm_31487 hG hP hD hS hl
                  have uh_31496 := h_31496.1
                  have vh_31496 := h_31496.2
                  have uh_31497 := h_31497.1
                  have vh_31497 := h_31497.2
                  have uh_31498 := h_31498.1
                  have vh_31498 := h_31498.2
                  refine lv_iload hx hb dX6_takeWord_57 (lv_at hl 4 rfl) ?_
                  refine va_ldcS hx hb hown hW0.2.2.2.2.2.2.2 dX6_takeWord_59 ?_
                  refine pk_i (va_runV (As := []) (rest := [.int x_31404]) ⟨hx, hb, hml, hown, hts⟩ (s_J0_length l D t σ I_31405 J ri rj rq H.size aK aV vF ) (cwV 0 hts (tw_V tw_685 tw_686 tw_687 tw_688 tw_689) rfl rfl rfl cv_yJ0_length_8abf5_0 ⟨Nat.le_of_ble_eq_true rfl, Nat.le_of_ble_eq_true rfl⟩) ⟨pq_blindS, pq_recvS hW0 hS, pq_preS hK hN hP hD hS hA hW0⟩ rfl rfl hl.1 rfl (lv_room (Nat.le_of_ble_eq_true rfl)) dX6_takeWord_61 ⟨Nat.le_of_ble_eq_true rfl, Nat.le_of_ble_eq_true rfl⟩) hD hS hA (fun x_31501 σ1 μ1 H locs hw_31502 hP hD hS => ?_)
                  obtain ⟨hux_31501, hvx_31501⟩ := hw_31502
                  obtain ⟨huax_31501, hubx_31501⟩ := Prod.mk.inj hux_31501
                  rw [huax_31501, hubx_31501] at hP hD
                  refine lv_tov 94 hvx_31501 ?_
                  refine lv_icmp_ge (tgt := 164) hx hb dX6_takeWord_64 (by decide) (fun c_31503 => ?_) (fun c_31503 => ?_)
                  · have tc_31504 : 94 ≤ (x_31404).toInt := Int32.le_iff_toInt_le.mp c_31503
                    have h_31505 : rg x_31404 94 94 := rg_le2 c_31503 (rg_k (94 : Int32) 94 rfl) h_31498 (by decide)
                    have uh_31505 := h_31505.1
                    have vh_31505 := h_31505.2
                    subst hQ
                    exact W.vret hx hb hr (fun t1 ht hW => ⟨⟨(σ, I_31405, J, ri, rj, rq), rfl, ⟨I_31405, rfl, hG, (by omega)⟩, by rw [ht]; exact hP, va_K.moved hW.alike hK, hD⟩, hS.F ht⟩) hS.2.2 dX6_takeWord_164
                  · have tc_31506 : (x_31404).toInt < 94 := Int32.lt_iff_toInt_lt.mp (nle c_31503)
                    have h_31507 : rg x_31404 0 93 := rg_lt1 (nle c_31503) h_31498 (rg_k (94 : Int32) 94 rfl) (by decide)
                    have uh_31507 := h_31507.1
                    have vh_31507 := h_31507.2
                    refine lv_aload_n hx hb dX6_takeWord_67 rfl (lv_at hl 0 rfl) ?_
                    refine pg_f (v := .int (I_31405 194 this)) (C := RX6) (T := TX6) (N := 6) hx hb hts (tw_i inlX6) hown hK hP hL_this hK_this (by decide) rfl 2 (by decide) (hts _ (tw_c tw_668)) rfl dX6_takeWord_68 ?_
                    refine lv_bipush (v := 34) hx hb dX6_takeWord_71 (by decide) ?_
                    refine lv_icmp_ne (tgt := 164) hx hb dX6_takeWord_73 (by decide) (fun c_31508 => ?_) (fun c_31508 => ?_)
                    · have tc_31509 : (I_31405 194 this).toInt ≠ 34 := fun q => c_31508 (Int32.toInt_inj.mp q)
                      subst hQ
                      exact W.vret hx hb hr (fun t1 ht hW => ⟨⟨(σ, I_31405, J, ri, rj, rq), rfl, ⟨I_31405, rfl, hG, (by omega)⟩, by rw [ht]; exact hP, va_K.moved hW.alike hK, hD⟩, hS.F ht⟩) hS.2.2 dX6_takeWord_164
                    · have tc_31510 : (I_31405 194 this).toInt = 34 := congrArg Int32.toInt c_31508
                      have h_31511 : rg (I_31405 194 this) 34 34 := rg_and (rg_full _) (rg_of_eq c_31508 (rg_k (34 : Int32) 34 rfl)) (by decide)
                      have uh_31511 := h_31511.1
                      have vh_31511 := h_31511.2
                      refine va_ldcS hx hb hown hW0.2.2.2.2.2.2.2 dX6_takeWord_76 ?_
                      refine lv_iload hx hb dX6_takeWord_78 (lv_at hl 4 rfl) ?_
                      refine pk_i (va_runV (As := [.int x_31404]) (rest := []) ⟨hx, hb, hml, hown, hts⟩ (s_J0_charAt l D t σ I_31405 J ri rj rq H.size aK aV vF x_31404 (Int32.not_lt.mpr (Int32.le_iff_toInt_le.mpr (by have z8 := (h_31507).1; have z9 : (0 : Int32).toInt = 0 := rfl; omega))) (Int32.lt_iff_toInt_lt.mpr (by have z8 := (h_31507).2; have z9 : (94 : Int32).toInt = 94 := rfl; omega))) (cwV 1 hts (tw_V tw_697 tw_698 tw_699 tw_688 tw_700) rfl rfl rfl cv_yJ0_charAt_5068e_1 ⟨Nat.le_of_ble_eq_true rfl, Nat.le_of_ble_eq_true rfl⟩) ⟨pq_blindS, pq_recvS hW0 hS, pq_preS hK hN hP hD hS hA hW0⟩ rfl rfl hl.1 rfl (lv_room (Nat.le_of_ble_eq_true rfl)) dX6_takeWord_80 ⟨Nat.le_of_ble_eq_true rfl, Nat.le_of_ble_eq_true rfl⟩) hD hS hA (fun x_31512 σ1 μ1 H locs hw_31513 hP hD hS => ?_)
                      obtain ⟨hux_31512, hvx_31512⟩ := hw_31513
                      obtain ⟨huax_31512, hubx_31512⟩ := Prod.mk.inj hux_31512
                      rw [huax_31512, hubx_31512] at hP hD
                      refine lv_bipush (v := 32) hx hb dX6_takeWord_83 (by decide) ?_
                      refine lv_icmp_eq (tgt := 128) hx hb dX6_takeWord_85 (by decide) (fun c_31514 => ?_) (fun c_31514 => ?_)
                      · have tc_31515 : (x_31512).toInt = 32 := congrArg Int32.toInt c_31514
                        have h_31516 : rg x_31512 32 32 := rg_and (rg_full _) (rg_of_eq c_31514 (rg_k (32 : Int32) 32 rfl)) (by decide)
                        have uh_31516 := h_31516.1
                        have vh_31516 := h_31516.2
                        refine lv_iload_n hx hb dX6_takeWord_128 rfl (lv_at hl 3 rfl) ?_
                        refine lv_if_eq (tgt := 148) hx hb dX6_takeWord_129 (by decide) (fun c_31517 => ?_) (fun c_31517 => ?_)
                        · have tc_31518 : (x_31403).toInt = 0 := congrArg Int32.toInt c_31517
                          have h_31519 : rg x_31403 0 0 := rg_and h_31497 (rg_of_eq c_31517 (rg_k (0 : Int32) 0 rfl)) (by decide)
                          have uh_31519 := h_31519.1
                          have vh_31519 := h_31519.2
                          obtain ⟨x_31520, ex_31520⟩ : ∃ y : Int32, y = x_31401 + Int32.ofInt 1 := ⟨_, rfl⟩
                          refine lv_iinc (v := x_31520) (lv' := [(1, .int x_31520), (0, .ref this), (2, .int x_31402), (3, .int x_31403), (4, .int x_31404)]) hx hb dX6_takeWord_148 hl (k := 1) rfl ex_31520.symm (by decide) rfl (fun ls hl => ?_)
                          refine lv_aload_n hx hb dX6_takeWord_151 rfl (lv_at hl 1 rfl) ?_
                          refine pg_f (v := .int (I_31405 195 this)) (C := RX6) (T := TX6) (N := 6) hx hb hts (tw_i inlX6) hown hK hP hL_this hK_this (by decide) rfl 3 (by decide) (hts _ (tw_c tw_667)) rfl dX6_takeWord_152 ?_
                          have h_31521 : rg (I_31405 195 this) 0 300 := GX.rI hG 195 rfl
                          have uh_31521 := h_31521.1
                          have vh_31521 := h_31521.2
                          refine lv_istore_n (lv' := [(2, .int (I_31405 195 this)), (1, .int x_31520), (0, .ref this), (3, .int x_31403), (4, .int x_31404)]) hx hb dX6_takeWord_155 rfl hl (by decide) rfl (fun ls hl => ?_)
                          refine lv_iconst (v := 1) hx hb dX6_takeWord_156 (by decide) ?_
                          refine lv_istore_n (lv' := [(3, .int 1), (2, .int (I_31405 195 this)), (1, .int x_31520), (0, .ref this), (4, .int x_31404)]) hx hb dX6_takeWord_157 rfl hl (by decide) rfl (fun ls hl => ?_)
                          obtain ⟨x_31522, ex_31522⟩ : ∃ y : Int32, y = x_31404 + Int32.ofInt 1 := ⟨_, rfl⟩
                          have h_31523 : rg x_31522 1 94 := rg_of_eq ex_31522 (rg_add h_31507 (rg_k (Int32.ofInt 1) 1 rfl) (by decide))
                          have uh_31523 := h_31523.1
                          have vh_31523 := h_31523.2
                          have tx_31522 : (x_31522).toInt = (x_31404).toInt + 1 := by rw [ex_31522]; exact i_add_rg (a2 := (x_31404).toInt) (b2 := 1) rfl rfl h_31507 (rg_k (Int32.ofInt 1) 1 rfl) (by decide)
                          refine lv_iinc (v := x_31522) (lv' := [(4, .int x_31522), (3, .int 1), (2, .int (I_31405 195 this)), (1, .int x_31520), (0, .ref this)]) hx hb dX6_takeWord_158 hl (k := 4) rfl ex_31522.symm (by decide) rfl (fun ls hl => ?_)
                          refine lv_goto (tgt := 57) hx hb dX6_takeWord_161 (by decide) ?_
                          exact ih_31490 x_31520 (I_31405 195 this) (1 : Int32) x_31522 I_31405 _ _ _ (rg_w h_31521 (by decide)) (rg_w (rg_k (1 : Int32) 1 rfl) (by decide)) (rg_w h_31523 (by decide)) (by have k0 : (1 : Int32).toInt = 1 := rfl; omega) (by have k0 : (1 : Int32).toInt = 1 := rfl; omega) (ms_up 1 hm_31487 ex_31522 rfl (by decide) h_31507 (by decide) (by decide)) hG hP hD hS (lv_sub hl [4, 3, 2, 1, 0] rfl)
                        · have tc_31524 : (x_31403).toInt ≠ 0 := fun q => c_31517 (Int32.toInt_inj.mp q)
                          have h_31525 : rg x_31403 1 1 := rg_ne c_31517 h_31497 0 rfl (by decide)
                          have uh_31525 := h_31525.1
                          have vh_31525 := h_31525.2
                          refine lv_iload_n hx hb dX6_takeWord_132 rfl (lv_at hl 2 rfl) ?_
                          refine lv_aload_n hx hb dX6_takeWord_133 rfl (lv_at hl 0 rfl) ?_
                          refine pg_f (v := .int (I_31405 197 this)) (C := RX6) (T := TX6) (N := 6) hx hb hts (tw_i inlX6) hown hK hP hL_this hK_this (by decide) rfl 5 (by decide) (hts _ (tw_c tw_662)) rfl dX6_takeWord_134 ?_
                          have h_31526 : rg (I_31405 197 this) 0 300 := GX.rI hG 197 rfl
                          have uh_31526 := h_31526.1
                          have vh_31526 := h_31526.2
                          refine lv_icmp_ne (tgt := 148) hx hb dX6_takeWord_137 (by decide) (fun c_31527 => ?_) (fun c_31527 => ?_)
                          · have tc_31528 : (x_31402).toInt ≠ (I_31405 197 this).toInt := fun q => c_31527 (Int32.toInt_inj.mp q)
                            obtain ⟨x_31529, ex_31529⟩ : ∃ y : Int32, y = x_31401 + Int32.ofInt 1 := ⟨_, rfl⟩
                            refine lv_iinc (v := x_31529) (lv' := [(1, .int x_31529), (0, .ref this), (2, .int x_31402), (3, .int x_31403), (4, .int x_31404)]) hx hb dX6_takeWord_148 hl (k := 1) rfl ex_31529.symm (by decide) rfl (fun ls hl => ?_)
                            refine lv_aload_n hx hb dX6_takeWord_151 rfl (lv_at hl 1 rfl) ?_
                            refine pg_f (v := .int (I_31405 195 this)) (C := RX6) (T := TX6) (N := 6) hx hb hts (tw_i inlX6) hown hK hP hL_this hK_this (by decide) rfl 3 (by decide) (hts _ (tw_c tw_667)) rfl dX6_takeWord_152 ?_
                            have h_31530 : rg (I_31405 195 this) 0 300 := GX.rI hG 195 rfl
                            have uh_31530 := h_31530.1
                            have vh_31530 := h_31530.2
                            refine lv_istore_n (lv' := [(2, .int (I_31405 195 this)), (1, .int x_31529), (0, .ref this), (3, .int x_31403), (4, .int x_31404)]) hx hb dX6_takeWord_155 rfl hl (by decide) rfl (fun ls hl => ?_)
                            refine lv_iconst (v := 1) hx hb dX6_takeWord_156 (by decide) ?_
                            refine lv_istore_n (lv' := [(3, .int 1), (2, .int (I_31405 195 this)), (1, .int x_31529), (0, .ref this), (4, .int x_31404)]) hx hb dX6_takeWord_157 rfl hl (by decide) rfl (fun ls hl => ?_)
                            obtain ⟨x_31531, ex_31531⟩ : ∃ y : Int32, y = x_31404 + Int32.ofInt 1 := ⟨_, rfl⟩
                            have h_31532 : rg x_31531 1 94 := rg_of_eq ex_31531 (rg_add h_31507 (rg_k (Int32.ofInt 1) 1 rfl) (by decide))
                            have uh_31532 := h_31532.1
                            have vh_31532 := h_31532.2
                            have tx_31531 : (x_31531).toInt = (x_31404).toInt + 1 := by rw [ex_31531]; exact i_add_rg (a2 := (x_31404).toInt) (b2 := 1) rfl rfl h_31507 (rg_k (Int32.ofInt 1) 1 rfl) (by decide)
                            refine lv_iinc (v := x_31531) (lv' := [(4, .int x_31531), (3, .int 1), (2, .int (I_31405 195 this)), (1, .int x_31529), (0, .ref this)]) hx hb dX6_takeWord_158 hl (k := 4) rfl ex_31531.symm (by decide) rfl (fun ls hl => ?_)
                            refine lv_goto (tgt := 57) hx hb dX6_takeWord_161 (by decide) ?_
                            exact ih_31490 x_31529 (I_31405 195 this) (1 : Int32) x_31531 I_31405 _ _ _ (rg_w h_31530 (by decide)) (rg_w (rg_k (1 : Int32) 1 rfl) (by decide)) (rg_w h_31532 (by decide)) (by have k0 : (1 : Int32).toInt = 1 := rfl; omega) (by have k0 : (1 : Int32).toInt = 1 := rfl; omega) (ms_up 1 hm_31487 ex_31531 rfl (by decide) h_31507 (by decide) (by decide)) hG hP hD hS (lv_sub hl [4, 3, 2, 1, 0] rfl)
                          · have tc_31533 : (x_31402).toInt = (I_31405 197 this).toInt := congrArg Int32.toInt c_31527
                            have h_31534 : rg x_31402 0 300 := rg_and h_31496 (rg_of_eq c_31527 h_31526) (by decide)
                            have uh_31534 := h_31534.1
                            have vh_31534 := h_31534.2
                            refine lv_aload_n hx hb dX6_takeWord_140 rfl (lv_at hl 0 rfl) ?_
                            refine lv_iload_n hx hb dX6_takeWord_141 rfl (lv_at hl 1 rfl) ?_
                            refine pp_i (v := x_31401) (ty := .int) (C := RX6) (T := TX6) (N := 6) hx hb hts (tw_i inlX6) tyX6 tyX6_ok nmX6 hown hK hP hD hS hL_this hK_this (by decide) rfl 2 194 (by decide) (hts _ (tw_c tw_668)) rfl (tyX6_ok 2 (by decide)) rfl rfl (Nat.le_of_ble_eq_true rfl) (ps_194 _ _ _ _ _) dX6_takeWord_142 (fun I_31535 H locs eI_31535 hP hD hS => ?_)
                            have hG := GX.wI hG 194 rfl eI_31535 (rg_w (rg_full _) (by decide)) (by decide)
                            have tt_31536 : (I_31535 197 this).toInt = (I_31405 197 this).toInt := by rw [eI_31535, pq_uf _ _ _ (by decide)]
                            have tt_31537 : (I_31535 193 this).toInt = (I_31405 193 this).toInt := by rw [eI_31535, pq_uf _ _ _ (by decide)]
                            have tt_31538 : (I_31535 194 this).toInt = (x_31401).toInt := by rw [eI_31535, pq_us]
                            refine lv_goto (tgt := 158) hx hb dX6_takeWord_145 (by decide) ?_
                            obtain ⟨x_31539, ex_31539⟩ : ∃ y : Int32, y = x_31404 + Int32.ofInt 1 := ⟨_, rfl⟩
                            have h_31540 : rg x_31539 1 94 := rg_of_eq ex_31539 (rg_add h_31507 (rg_k (Int32.ofInt 1) 1 rfl) (by decide))
                            have uh_31540 := h_31540.1
                            have vh_31540 := h_31540.2
                            have tx_31539 : (x_31539).toInt = (x_31404).toInt + 1 := by rw [ex_31539]; exact i_add_rg (a2 := (x_31404).toInt) (b2 := 1) rfl rfl h_31507 (rg_k (Int32.ofInt 1) 1 rfl) (by decide)
                            refine lv_iinc (v := x_31539) (lv' := [(4, .int x_31539), (0, .ref this), (1, .int x_31401), (2, .int x_31402), (3, .int x_31403)]) hx hb dX6_takeWord_158 hl (k := 4) rfl ex_31539.symm (by decide) rfl (fun ls hl => ?_)
                            refine lv_goto (tgt := 57) hx hb dX6_takeWord_161 (by decide) ?_
                            exact ih_31490 x_31401 x_31402 x_31403 x_31539 I_31535 _ _ _ (rg_w h_31534 (by decide)) (rg_w h_31525 (by decide)) (rg_w h_31540 (by decide)) (by omega) (by omega) (ms_up 1 hm_31487 ex_31539 rfl (by decide) h_31507 (by decide) (by decide)) hG hP hD hS (lv_sub hl [1, 2, 3, 4, 0] rfl)
                      · have tc_31541 : (x_31512).toInt ≠ 32 := fun q => c_31514 (Int32.toInt_inj.mp q)
                        refine lv_iload_n hx hb dX6_takeWord_88 rfl (lv_at hl 3 rfl) ?_
                        refine lv_if_eq (tgt := 120) hx hb dX6_takeWord_89 (by decide) (fun c_31542 => ?_) (fun c_31542 => ?_)
                        · have tc_31543 : (x_31403).toInt = 0 := congrArg Int32.toInt c_31542
                          have h_31544 : rg x_31403 0 0 := rg_and h_31497 (rg_of_eq c_31542 (rg_k (0 : Int32) 0 rfl)) (by decide)
                          have uh_31544 := h_31544.1
                          have vh_31544 := h_31544.2
                          refine lv_iconst (v := 0) hx hb dX6_takeWord_120 (by decide) ?_
                          refine lv_istore_n (lv' := [(3, .int 0), (0, .ref this), (1, .int x_31401), (2, .int x_31402), (4, .int x_31404)]) hx hb dX6_takeWord_121 rfl hl (by decide) rfl (fun ls hl => ?_)
                          have h_31545 : rg x_31402 0 393 := ⟨by omega, by omega⟩
                          have uh_31545 := h_31545.1
                          have vh_31545 := h_31545.2
                          obtain ⟨x_31546, ex_31546⟩ : ∃ y : Int32, y = x_31402 + Int32.ofInt 1 := ⟨_, rfl⟩
                          have h_31547 : rg x_31546 1 394 := rg_of_eq ex_31546 (rg_add h_31545 (rg_k (Int32.ofInt 1) 1 rfl) (by decide))
                          have uh_31547 := h_31547.1
                          have vh_31547 := h_31547.2
                          have tx_31546 : (x_31546).toInt = (x_31402).toInt + 1 := by rw [ex_31546]; exact i_add_rg (a2 := (x_31402).toInt) (b2 := 1) rfl rfl h_31545 (rg_k (Int32.ofInt 1) 1 rfl) (by decide)
                          refine lv_iinc (v := x_31546) (lv' := [(2, .int x_31546), (3, .int 0), (0, .ref this), (1, .int x_31401), (4, .int x_31404)]) hx hb dX6_takeWord_122 hl (k := 3) rfl ex_31546.symm (by decide) rfl (fun ls hl => ?_)
                          refine lv_goto (tgt := 158) hx hb dX6_takeWord_125 (by decide) ?_
                          obtain ⟨x_31548, ex_31548⟩ : ∃ y : Int32, y = x_31404 + Int32.ofInt 1 := ⟨_, rfl⟩
                          have h_31549 : rg x_31548 1 94 := rg_of_eq ex_31548 (rg_add h_31507 (rg_k (Int32.ofInt 1) 1 rfl) (by decide))
                          have uh_31549 := h_31549.1
                          have vh_31549 := h_31549.2
                          have tx_31548 : (x_31548).toInt = (x_31404).toInt + 1 := by rw [ex_31548]; exact i_add_rg (a2 := (x_31404).toInt) (b2 := 1) rfl rfl h_31507 (rg_k (Int32.ofInt 1) 1 rfl) (by decide)
                          refine lv_iinc (v := x_31548) (lv' := [(4, .int x_31548), (2, .int x_31546), (3, .int 0), (0, .ref this), (1, .int x_31401)]) hx hb dX6_takeWord_158 hl (k := 4) rfl ex_31548.symm (by decide) rfl (fun ls hl => ?_)
                          refine lv_goto (tgt := 57) hx hb dX6_takeWord_161 (by decide) ?_
                          exact ih_31490 x_31401 x_31546 (0 : Int32) x_31548 I_31405 _ _ _ (rg_w h_31547 (by decide)) (rg_w (rg_k (0 : Int32) 0 rfl) (by decide)) (rg_w h_31549 (by decide)) (by have k0 : (0 : Int32).toInt = 0 := rfl; omega) (by have k0 : (0 : Int32).toInt = 0 := rfl; omega) (ms_up 1 hm_31487 ex_31548 rfl (by decide) h_31507 (by decide) (by decide)) hG hP hD hS (lv_sub hl [3, 4, 1, 2, 0] rfl)
                        · have tc_31550 : (x_31403).toInt ≠ 0 := fun q => c_31542 (Int32.toInt_inj.mp q)
                          have h_31551 : rg x_31403 1 1 := rg_ne c_31542 h_31497 0 rfl (by decide)
                          have uh_31551 := h_31551.1
                          have vh_31551 := h_31551.2
                          refine lv_iload_n hx hb dX6_takeWord_92 rfl (lv_at hl 2 rfl) ?_
                          refine lv_aload_n hx hb dX6_takeWord_93 rfl (lv_at hl 0 rfl) ?_
                          refine pg_f (v := .int (I_31405 197 this)) (C := RX6) (T := TX6) (N := 6) hx hb hts (tw_i inlX6) hown hK hP hL_this hK_this (by decide) rfl 5 (by decide) (hts _ (tw_c tw_662)) rfl dX6_takeWord_94 ?_
                          have h_31552 : rg (I_31405 197 this) 0 300 := GX.rI hG 197 rfl
                          have uh_31552 := h_31552.1
                          have vh_31552 := h_31552.2
                          refine lv_icmp_ge (tgt := 120) hx hb dX6_takeWord_97 (by decide) (fun c_31553 => ?_) (fun c_31553 => ?_)
                          · have tc_31554 : (I_31405 197 this).toInt ≤ (x_31402).toInt := Int32.le_iff_toInt_le.mp c_31553
                            refine lv_iconst (v := 0) hx hb dX6_takeWord_120 (by decide) ?_
                            refine lv_istore_n (lv' := [(3, .int 0), (0, .ref this), (1, .int x_31401), (2, .int x_31402), (4, .int x_31404)]) hx hb dX6_takeWord_121 rfl hl (by decide) rfl (fun ls hl => ?_)
                            have h_31555 : rg x_31402 0 393 := ⟨by omega, by omega⟩
                            have uh_31555 := h_31555.1
                            have vh_31555 := h_31555.2
                            obtain ⟨x_31556, ex_31556⟩ : ∃ y : Int32, y = x_31402 + Int32.ofInt 1 := ⟨_, rfl⟩
                            have h_31557 : rg x_31556 1 394 := rg_of_eq ex_31556 (rg_add h_31555 (rg_k (Int32.ofInt 1) 1 rfl) (by decide))
                            have uh_31557 := h_31557.1
                            have vh_31557 := h_31557.2
                            have tx_31556 : (x_31556).toInt = (x_31402).toInt + 1 := by rw [ex_31556]; exact i_add_rg (a2 := (x_31402).toInt) (b2 := 1) rfl rfl h_31555 (rg_k (Int32.ofInt 1) 1 rfl) (by decide)
                            refine lv_iinc (v := x_31556) (lv' := [(2, .int x_31556), (3, .int 0), (0, .ref this), (1, .int x_31401), (4, .int x_31404)]) hx hb dX6_takeWord_122 hl (k := 3) rfl ex_31556.symm (by decide) rfl (fun ls hl => ?_)
                            refine lv_goto (tgt := 158) hx hb dX6_takeWord_125 (by decide) ?_
                            obtain ⟨x_31558, ex_31558⟩ : ∃ y : Int32, y = x_31404 + Int32.ofInt 1 := ⟨_, rfl⟩
                            have h_31559 : rg x_31558 1 94 := rg_of_eq ex_31558 (rg_add h_31507 (rg_k (Int32.ofInt 1) 1 rfl) (by decide))
                            have uh_31559 := h_31559.1
                            have vh_31559 := h_31559.2
                            have tx_31558 : (x_31558).toInt = (x_31404).toInt + 1 := by rw [ex_31558]; exact i_add_rg (a2 := (x_31404).toInt) (b2 := 1) rfl rfl h_31507 (rg_k (Int32.ofInt 1) 1 rfl) (by decide)
                            refine lv_iinc (v := x_31558) (lv' := [(4, .int x_31558), (2, .int x_31556), (3, .int 0), (0, .ref this), (1, .int x_31401)]) hx hb dX6_takeWord_158 hl (k := 4) rfl ex_31558.symm (by decide) rfl (fun ls hl => ?_)
                            refine lv_goto (tgt := 57) hx hb dX6_takeWord_161 (by decide) ?_
                            exact ih_31490 x_31401 x_31556 (0 : Int32) x_31558 I_31405 _ _ _ (rg_w h_31557 (by decide)) (rg_w (rg_k (0 : Int32) 0 rfl) (by decide)) (rg_w h_31559 (by decide)) (by have k0 : (0 : Int32).toInt = 0 := rfl; omega) (by have k0 : (0 : Int32).toInt = 0 := rfl; omega) (ms_up 1 hm_31487 ex_31558 rfl (by decide) h_31507 (by decide) (by decide)) hG hP hD hS (lv_sub hl [3, 4, 1, 2, 0] rfl)
                          · have tc_31560 : (x_31402).toInt < (I_31405 197 this).toInt := Int32.lt_iff_toInt_lt.mp (nle c_31553)
                            have h_31561 : rg x_31402 0 299 := rg_lt1 (nle c_31553) h_31496 h_31552 (by decide)
                            have uh_31561 := h_31561.1
                            have vh_31561 := h_31561.2
                            have h_31562 : rg (I_31405 197 this) 1 300 := rg_lt2 (nle c_31553) h_31496 h_31552 (by decide)
                            have uh_31562 := h_31562.1
                            have vh_31562 := h_31562.2
                            refine lv_aload_n hx hb dX6_takeWord_100 rfl (lv_at hl 0 rfl) ?_
                            refine pg_f (v := .ref this_tape) (C := RX6) (T := TX6) (N := 6) hx hb hts (tw_i inlX6) hown hK hP hL_this hK_this (by decide) rfl 0 (by decide) (hts _ (tw_c tw_165)) (pq_hv rfl hR_this_tape) dX6_takeWord_101 ?_
                            refine lv_iload_n hx hb dX6_takeWord_104 rfl (lv_at hl 2 rfl) ?_
                            refine pl_i hx hb hK hP hL_this_tape hK_this_tape hN_this_tape (rg_in h_31561 (by decide)) dX6_takeWord_105 ?_
                            refine lv_topi (fun x_31563 ex_31563 => ?_)
                            refine va_ldcS hx hb hown hW0.2.2.2.2.2.2.2 dX6_takeWord_106 ?_
                            refine lv_iload hx hb dX6_takeWord_108 (lv_at hl 4 rfl) ?_
                            refine pk_i (va_runV (As := [.int x_31404]) (rest := [.int x_31563]) ⟨hx, hb, hml, hown, hts⟩ (s_J0_charAt l D t σ I_31405 J ri rj rq H.size aK aV vF x_31404 (Int32.not_lt.mpr (Int32.le_iff_toInt_le.mpr (by have z8 := (h_31507).1; have z9 : (0 : Int32).toInt = 0 := rfl; omega))) (Int32.lt_iff_toInt_lt.mpr (by have z8 := (h_31507).2; have z9 : (94 : Int32).toInt = 94 := rfl; omega))) (cwV 1 hts (tw_V tw_697 tw_698 tw_699 tw_688 tw_700) rfl rfl rfl cv_yJ0_charAt_5068e_1 ⟨Nat.le_of_ble_eq_true rfl, Nat.le_of_ble_eq_true rfl⟩) ⟨pq_blindS, pq_recvS hW0 hS, pq_preS hK hN hP hD hS hA hW0⟩ rfl rfl hl.1 rfl (lv_room (Nat.le_of_ble_eq_true rfl)) dX6_takeWord_110 ⟨Nat.le_of_ble_eq_true rfl, Nat.le_of_ble_eq_true rfl⟩) hD hS hA (fun x_31564 σ1 μ1 H locs hw_31565 hP hD hS => ?_)
                            obtain ⟨hux_31564, hvx_31564⟩ := hw_31565
                            obtain ⟨huax_31564, hubx_31564⟩ := Prod.mk.inj hux_31564
                            rw [huax_31564, hubx_31564] at hP hD
                            refine lv_icmp_ne (tgt := 120) hx hb dX6_takeWord_113 (by decide) (fun c_31566 => ?_) (fun c_31566 => ?_)
                            · have tc_31567 : (x_31563).toInt ≠ (x_31564).toInt := fun q => c_31566 (Int32.toInt_inj.mp q)
                              refine lv_iconst (v := 0) hx hb dX6_takeWord_120 (by decide) ?_
                              refine lv_istore_n (lv' := [(3, .int 0), (0, .ref this), (1, .int x_31401), (2, .int x_31402), (4, .int x_31404)]) hx hb dX6_takeWord_121 rfl hl (by decide) rfl (fun ls hl => ?_)
                              obtain ⟨x_31568, ex_31568⟩ : ∃ y : Int32, y = x_31402 + Int32.ofInt 1 := ⟨_, rfl⟩
                              have h_31569 : rg x_31568 1 300 := rg_of_eq ex_31568 (rg_add h_31561 (rg_k (Int32.ofInt 1) 1 rfl) (by decide))
                              have uh_31569 := h_31569.1
                              have vh_31569 := h_31569.2
                              have tx_31568 : (x_31568).toInt = (x_31402).toInt + 1 := by rw [ex_31568]; exact i_add_rg (a2 := (x_31402).toInt) (b2 := 1) rfl rfl h_31561 (rg_k (Int32.ofInt 1) 1 rfl) (by decide)
                              refine lv_iinc (v := x_31568) (lv' := [(2, .int x_31568), (3, .int 0), (0, .ref this), (1, .int x_31401), (4, .int x_31404)]) hx hb dX6_takeWord_122 hl (k := 3) rfl ex_31568.symm (by decide) rfl (fun ls hl => ?_)
                              refine lv_goto (tgt := 158) hx hb dX6_takeWord_125 (by decide) ?_
                              obtain ⟨x_31570, ex_31570⟩ : ∃ y : Int32, y = x_31404 + Int32.ofInt 1 := ⟨_, rfl⟩
                              have h_31571 : rg x_31570 1 94 := rg_of_eq ex_31570 (rg_add h_31507 (rg_k (Int32.ofInt 1) 1 rfl) (by decide))
                              have uh_31571 := h_31571.1
                              have vh_31571 := h_31571.2
                              have tx_31570 : (x_31570).toInt = (x_31404).toInt + 1 := by rw [ex_31570]; exact i_add_rg (a2 := (x_31404).toInt) (b2 := 1) rfl rfl h_31507 (rg_k (Int32.ofInt 1) 1 rfl) (by decide)
                              refine lv_iinc (v := x_31570) (lv' := [(4, .int x_31570), (2, .int x_31568), (3, .int 0), (0, .ref this), (1, .int x_31401)]) hx hb dX6_takeWord_158 hl (k := 4) rfl ex_31570.symm (by decide) rfl (fun ls hl => ?_)
                              refine lv_goto (tgt := 57) hx hb dX6_takeWord_161 (by decide) ?_
                              exact ih_31490 x_31401 x_31568 (0 : Int32) x_31570 I_31405 _ _ _ (rg_w h_31569 (by decide)) (rg_w (rg_k (0 : Int32) 0 rfl) (by decide)) (rg_w h_31571 (by decide)) (by have k0 : (0 : Int32).toInt = 0 := rfl; omega) (by have k0 : (0 : Int32).toInt = 0 := rfl; omega) (ms_up 1 hm_31487 ex_31570 rfl (by decide) h_31507 (by decide) (by decide)) hG hP hD hS (lv_sub hl [3, 4, 1, 2, 0] rfl)
                            · have tc_31572 : (x_31563).toInt = (x_31564).toInt := congrArg Int32.toInt c_31566
                              refine lv_iconst (v := 1) hx hb dX6_takeWord_116 (by decide) ?_
                              refine lv_goto (tgt := 121) hx hb dX6_takeWord_117 (by decide) ?_
                              refine lv_istore_n (lv' := [(3, .int 1), (0, .ref this), (1, .int x_31401), (2, .int x_31402), (4, .int x_31404)]) hx hb dX6_takeWord_121 rfl hl (by decide) rfl (fun ls hl => ?_)
                              obtain ⟨x_31573, ex_31573⟩ : ∃ y : Int32, y = x_31402 + Int32.ofInt 1 := ⟨_, rfl⟩
                              have h_31574 : rg x_31573 1 300 := rg_of_eq ex_31573 (rg_add h_31561 (rg_k (Int32.ofInt 1) 1 rfl) (by decide))
                              have uh_31574 := h_31574.1
                              have vh_31574 := h_31574.2
                              have tx_31573 : (x_31573).toInt = (x_31402).toInt + 1 := by rw [ex_31573]; exact i_add_rg (a2 := (x_31402).toInt) (b2 := 1) rfl rfl h_31561 (rg_k (Int32.ofInt 1) 1 rfl) (by decide)
                              refine lv_iinc (v := x_31573) (lv' := [(2, .int x_31573), (3, .int 1), (0, .ref this), (1, .int x_31401), (4, .int x_31404)]) hx hb dX6_takeWord_122 hl (k := 3) rfl ex_31573.symm (by decide) rfl (fun ls hl => ?_)
                              refine lv_goto (tgt := 158) hx hb dX6_takeWord_125 (by decide) ?_
                              obtain ⟨x_31575, ex_31575⟩ : ∃ y : Int32, y = x_31404 + Int32.ofInt 1 := ⟨_, rfl⟩
                              have h_31576 : rg x_31575 1 94 := rg_of_eq ex_31575 (rg_add h_31507 (rg_k (Int32.ofInt 1) 1 rfl) (by decide))
                              have uh_31576 := h_31576.1
                              have vh_31576 := h_31576.2
                              have tx_31575 : (x_31575).toInt = (x_31404).toInt + 1 := by rw [ex_31575]; exact i_add_rg (a2 := (x_31404).toInt) (b2 := 1) rfl rfl h_31507 (rg_k (Int32.ofInt 1) 1 rfl) (by decide)
                              refine lv_iinc (v := x_31575) (lv' := [(4, .int x_31575), (2, .int x_31573), (3, .int 1), (0, .ref this), (1, .int x_31401)]) hx hb dX6_takeWord_158 hl (k := 4) rfl ex_31575.symm (by decide) rfl (fun ls hl => ?_)
                              refine lv_goto (tgt := 57) hx hb dX6_takeWord_161 (by decide) ?_
                              exact ih_31490 x_31401 x_31573 (1 : Int32) x_31575 I_31405 _ _ _ (rg_w h_31574 (by decide)) (rg_w (rg_k (1 : Int32) 1 rfl) (by decide)) (rg_w h_31576 (by decide)) (by have k0 : (1 : Int32).toInt = 1 := rfl; omega) (by have k0 : (1 : Int32).toInt = 1 := rfl; omega) (ms_up 1 hm_31487 ex_31575 rfl (by decide) h_31507 (by decide) (by decide)) hG hP hD hS (lv_sub hl [3, 4, 1, 2, 0] rfl)
              exact L_31489 _ (0 : Int32) (I_29172 195 this) (1 : Int32) (0 : Int32) I_29172 _ _ _ (rg_w h_29176 (by decide)) (rg_w (rg_k (1 : Int32) 1 rfl) (by decide)) (rg_w (rg_k (0 : Int32) 0 rfl) (by decide)) (by have k0 : (0 : Int32).toInt = 0 := rfl; have k1 : (1 : Int32).toInt = 1 := rfl; omega) (by have k0 : (0 : Int32).toInt = 0 := rfl; have k1 : (1 : Int32).toInt = 1 := rfl; omega) (Nat.lt_succ_self _) hG hP hD hS (lv_sub hl [4, 3, 2, 1, 0] rfl)
            refine lv_icmp_ge (tgt := 39) hx hb dX6_takeWord_8 (by decide) (fun c_31577 => ?_) (fun c_31577 => ?_)
            · have tc_31578 : (I_24305 193 this).toInt ≤ (I_24305 197 this).toInt := Int32.le_iff_toInt_le.mp c_31577
              have h_31579 : rg (I_24305 197 this) 1 300 := rg_le2 c_31577 h_26742 h_26741 (by decide)
              have uh_31579 := h_31579.1
              have vh_31579 := h_31579.2
              exact K_29169 _ _ _ (by omega) hG hP hD hS (lv_sub hl [0] rfl)
            · have tc_31580 : (I_24305 197 this).toInt < (I_24305 193 this).toInt := Int32.lt_iff_toInt_lt.mp (nle c_31577)
              have h_31581 : rg (I_24305 197 this) 0 299 := rg_lt1 (nle c_31577) h_26741 h_26742 (by decide)
              have uh_31581 := h_31581.1
              have vh_31581 := h_31581.2
              refine lv_aload_n hx hb dX6_takeWord_11 rfl (lv_at hl 0 rfl) ?_
              refine pg_f (v := .ref this_tape) (C := RX6) (T := TX6) (N := 6) hx hb hts (tw_i inlX6) hown hK hP hL_this hK_this (by decide) rfl 0 (by decide) (hts _ (tw_c tw_165)) (pq_hv rfl hR_this_tape) dX6_takeWord_12 ?_
              refine lv_aload_n hx hb dX6_takeWord_15 rfl (lv_at hl 0 rfl) ?_
              refine pg_f (v := .int (I_24305 197 this)) (C := RX6) (T := TX6) (N := 6) hx hb hts (tw_i inlX6) hown hK hP hL_this hK_this (by decide) rfl 5 (by decide) (hts _ (tw_c tw_662)) rfl dX6_takeWord_16 ?_
              refine pl_i hx hb hK hP hL_this_tape hK_this_tape hN_this_tape (rg_in h_31581 (by decide)) dX6_takeWord_19 ?_
              refine lv_topi (fun x_31582 ex_31582 => ?_)
              have tt_31583 : (I_24305 197 this).toInt = (I 197 this).toInt → (x_31582).toInt = (ri this_tape (I 197 this).toNatClampNeg).toInt := fun q => by rw [ex_31582, Int32.toInt_inj.mp q]
              refine pk_i (va_runS (As := [.int x_31582]) (rest := []) ⟨hx, hb, hml, hown, hts⟩ (s_X6_isLetter_x l D t σ I_24305 J ri rj rq H.size tg hSH hG.1 x_31582) (va_cwS 1 hts (tw_S tw_678 tw_679 tw_153 tw_680) rfl rfl rfl cd_yX6_isLetter_1 ⟨Nat.le_of_ble_eq_true rfl, Nat.le_of_ble_eq_true rfl⟩) ⟨pq_blind, pq_pre hK hN hP hD⟩ rfl rfl hl.1 rfl (lv_room (Nat.le_of_ble_eq_true rfl)) dX6_takeWord_20 ⟨Nat.le_of_ble_eq_true rfl, Nat.le_of_ble_eq_true rfl⟩) hD hS hA (fun x_31584 σ1 μ1 H locs hw_31585 hP hD hS => ?_)
              obtain ⟨hu_31586, hr_31588⟩ := hw_31585
              obtain ⟨hu_31586a, hu_31586b⟩ := Prod.mk.inj hu_31586
              rw [hu_31586a, hu_31586b] at hP hD
              have h_31589 : rg x_31584 0 1 := by rcases hr_31588 with ⟨q, -⟩ | ⟨q, -⟩ <;> rw [q] <;> exact ⟨by decide, by decide⟩
              have uh_31589 := h_31589.1
              have vh_31589 := h_31589.2
              refine lv_if_eq (tgt := 39) hx hb dX6_takeWord_23 (by decide) (fun c_31590 => ?_) (fun c_31590 => ?_)
              · have f_31591 := (hr_31588.resolve_left (fun q => absurd (q.1.symm.trans c_31590) (by decide))).2
                have tc_31592 : (x_31584).toInt = 0 := congrArg Int32.toInt c_31590
                have h_31593 : rg x_31584 0 0 := rg_and h_31589 (rg_of_eq c_31590 (rg_k (0 : Int32) 0 rfl)) (by decide)
                have uh_31593 := h_31593.1
                have vh_31593 := h_31593.2
                exact K_29169 _ _ _ (by omega) hG hP hD hS (lv_sub hl [0] rfl)
              · obtain ⟨f_31594, f_31595⟩ := (hr_31588.resolve_right (fun q => c_31590 q.1)).2
                have uf_31594 := f_31594.1
                have vf_31594 := f_31594.2
                have tc_31596 : (x_31584).toInt ≠ 0 := fun q => c_31590 (Int32.toInt_inj.mp q)
                have h_31597 : rg x_31584 1 1 := rg_ne c_31590 h_31589 0 rfl (by decide)
                have uh_31597 := h_31597.1
                have vh_31597 := h_31597.2
                refine lv_aload_n hx hb dX6_takeWord_26 rfl (lv_at hl 0 rfl) ?_
                refine lv_dup hx hb dX6_takeWord_27 rfl ?_
                refine pg_f (v := .int (I_24305 197 this)) (C := RX6) (T := TX6) (N := 6) hx hb hts (tw_i inlX6) hown hK hP hL_this hK_this (by decide) rfl 5 (by decide) (hts _ (tw_c tw_662)) rfl dX6_takeWord_28 ?_
                refine lv_iconst (v := 1) hx hb dX6_takeWord_31 (by decide) ?_
                refine lv_iadd hx hb dX6_takeWord_32 ?_
                refine lv_topi (fun x_31598 ex_31598 => ?_)
                have h_31599 : rg x_31598 1 300 := rg_of_eq ex_31598 (rg_add h_31581 (rg_k (1 : Int32) 1 rfl) (by decide))
                have uh_31599 := h_31599.1
                have vh_31599 := h_31599.2
                have tx_31598 : (x_31598).toInt = (I_24305 197 this).toInt + 1 := by rw [ex_31598]; exact i_add_rg (a2 := (I_24305 197 this).toInt) (b2 := 1) rfl rfl h_31581 (rg_k (1 : Int32) 1 rfl) (by decide)
                refine pp_i (v := x_31598) (ty := .int) (C := RX6) (T := TX6) (N := 6) hx hb hts (tw_i inlX6) tyX6 tyX6_ok nmX6 hown hK hP hD hS hL_this hK_this (by decide) rfl 5 197 (by decide) (hts _ (tw_c tw_662)) rfl (tyX6_ok 5 (by decide)) rfl rfl (Nat.le_of_ble_eq_true rfl) (ps_197 _ _ _ _ _) dX6_takeWord_33 (fun I_31600 H locs eI_31600 hP hD hS => ?_)
                have hG := GX.wI hG 197 rfl eI_31600 (rg_w h_31599 (by decide)) (by decide)
                have tt_31601 : (I_31600 197 this).toInt = (x_31598).toInt := by rw [eI_31600, pq_us]
                have tt_31602 : (I_31600 193 this).toInt = (I_24305 193 this).toInt := by rw [eI_31600, pq_uf _ _ _ (by decide)]
                have tt_31603 : (I_31600 194 this).toInt = (I_24305 194 this).toInt := by rw [eI_31600, pq_uf _ _ _ (by decide)]
                refine lv_goto (tgt := 0) hx hb dX6_takeWord_36 (by decide) ?_
                exact ih_26738 I_31600 _ _ _ (by omega) (ms_fu_iadd hm_26735 (by rw [eI_31600]; exact pq_us _ _ _ _) ex_31598 rfl (kk := 1) rfl (by decide) h_31581 (by decide) (by decide)) hG hP hD hS (lv_sub hl [0] rfl)
        exact L_26737 _ I_17011 _ _ _ (by omega) (Nat.lt_succ_self _) hG hP hD hS (lv_sub hl [0] rfl)
  exact go _ _ _ hP hD hS hl

set_option maxHeartbeats 4000000 in
set_option maxRecDepth 100000 in
theorem s_X6_advance (l : Launch) (D : va_G) (t : pq_T) (σ : pq_S) (I : Nat → Nat → Int32) (J : Nat → Nat → Int64) (ri : Nat → Nat → Int32) (rj : Nat → Nat → Int64) (rq : Nat → Nat → Option Nat) (sz : Nat) (aK aV : Nat) (vF : Value) (tg : Nat → Nat) (hSH : SH σ tg) (hG0 : GS tg σ I ri rq) (this : Nat) (hL_this : this ∈ σ.1) (hK_this : σ.2.1 this = 6) : MetVS aK aV vF l yX6_advance (wa yX6_advance cX6_advance 1 none) ({ frames := 5, cells := 0, slots := 0, locals := 109 }) [.ref this] D t σ (I, J, ri, rj, rq) sz 0 0 (fun (u : pq_S × pq_M) => ∃ I' : Nat → Nat → Int32, u = (σ, I', J, ri, rj, rq) ∧ GX [197, 194] tg σ I ri rj I' ri rj rq ∧ ((I 197 this).toInt ≤ (I' 197 this).toInt) ∧ ((I' 194 this).toInt = 33 ∨ (I 197 this).toInt + 1 ≤ (I' 197 this).toInt)) := by
  refine Met.ofW (cc := cX6_advance) (maxL := 1) (ret := none) (by decide) rfl ?_
  intro p e s m args below meth c s₁ B hml hv
  obtain ⟨rfl, ⟨hsz, hP, hK, hD0, hN⟩, hW0⟩ := hv
  have hx := B.exec
  have hb := B.bytes
  have hr := B.returns
  have hts := atoms_spec (ws := (wa yX6_advance cX6_advance 1 none)) B.pre
  have hown : s.vm.findClass RX6 = some m.cls := findClass_of_methodNamed B.named
  have hlocks := B.notSynchronized
  subst hsz
  have hD : va_D (pq_B t σ (I, J, ri, rj, rq) s.heap.size) (pq_P t σ (I, J, ri, rj, rq)) := hD0.self
  generalize hAe : pq_B t σ (I, J, ri, rj, rq) s.heap.size = A at hD hW0 ⊢
  have hA : ∀ q : Nat, s.heap.size ≤ q → A q := fun q h => by rw [← hAe]; exact Or.inr h
  have hS : va_S A s.heap s.heap [] := va_S.rf
  have hG : GX [197, 194] tg σ I ri rj I ri rj rq := ⟨hG0, fun _ _ _ => rfl, fun _ _ _ _ _ => rfl, fun _ _ _ _ _ => rfl⟩
  have hl := lv_entry ([.ref this]) (n := 1) (Nat.le_of_ble_eq_true rfl)
  rw [lg_entry_eq]
  generalize (lg_sl ([.ref this]) ++ List.replicate (1 - (lg_sl ([.ref this])).length) Slot.unset).toArray = ls at hl ⊢
  have hl : lv_has ls 1 [(0, .ref this)] := hl
  refine q_gen (fun Q hQ => ?_)
  have go : ∀ (H : Heap) (locs : List Loc) (ls : Array Slot), va_P D vwCl (pq_P t σ (I, J, ri, rj, rq)) H → va_D A (pq_P t σ (I, J, ri, rj, rq)) → va_S A s.heap H locs → lv_has ls 1 [(0, .ref this)] → W p l e ({ frames := 5, cells := 0, slots := 0, locals := 109 } : Room) s m (List.toArray ([.ref this] : List Value)) below meth c H locs 0 0 Q (F0 m 0 ls []) := by
    intro H locs ls hP hD hS hl
    refine lv_aload_n hx hb dX6_advance_0 rfl (lv_at hl 0 rfl) ?_
    refine pg_f (v := .int (I 197 this)) (C := RX6) (T := TX6) (N := 6) hx hb hts (tw_i inlX6) hown hK hP hL_this hK_this (by decide) rfl 5 (by decide) (hts _ (tw_c tw_662)) rfl dX6_advance_1 ?_
    have h_1 : rg (I 197 this) 0 300 := GX.rI hG 197 rfl
    have uh_1 := h_1.1
    have vh_1 := h_1.2
    refine lv_aload_n hx hb dX6_advance_4 rfl (lv_at hl 0 rfl) ?_
    refine pg_f (v := .int (I 193 this)) (C := RX6) (T := TX6) (N := 6) hx hb hts (tw_i inlX6) hown hK hP hL_this hK_this (by decide) rfl 1 (by decide) (hts _ (tw_c tw_626)) rfl dX6_advance_5 ?_
    have h_2 : rg (I 193 this) 0 300 := GX.rI hG 193 rfl
    have uh_2 := h_2.1
    have vh_2 := h_2.2
    have K_1330 : ∀  (H : Heap) (locs : List Loc) (ls : Array Slot), GX [197, 194] tg σ I ri rj I ri rj rq → va_P D vwCl (pq_P t σ (I, J, ri, rj, rq)) H → va_D A (pq_P t σ (I, J, ri, rj, rq)) → va_S A s.heap H locs → lv_has ls 1 [(0, .ref this)] → W p l e ({ frames := 5, cells := 0, slots := 0, locals := 109 } : Room) s m (List.toArray ([.ref this] : List Value)) below meth c H locs 0 0 Q (F0 m 52 ls []) := by
      intro H locs ls hG hP hD hS hl
      refine lv_aload_n hx hb dX6_advance_52 rfl (lv_at hl 0 rfl) ?_
      refine lv_aload_n hx hb dX6_advance_53 rfl (lv_at hl 0 rfl) ?_
      refine pg_f (v := .int (I 197 this)) (C := RX6) (T := TX6) (N := 6) hx hb hts (tw_i inlX6) hown hK hP hL_this hK_this (by decide) rfl 5 (by decide) (hts _ (tw_c tw_662)) rfl dX6_advance_54 ?_
      refine pp_i (v := (I 197 this)) (ty := .int) (C := RX6) (T := TX6) (N := 6) hx hb hts (tw_i inlX6) tyX6 tyX6_ok nmX6 hown hK hP hD hS hL_this hK_this (by decide) rfl 3 195 (by decide) (hts _ (tw_c tw_667)) rfl (tyX6_ok 3 (by decide)) rfl rfl (Nat.le_of_ble_eq_true rfl) (ps_195 _ _ _ _ _) dX6_advance_57 (fun I_1331 H locs eI_1331 hP hD hS => ?_)
      have hG := GX.wI hG 195 rfl eI_1331 (rg_w h_1 (by decide)) (by decide)
      have tt_1332 : (I_1331 197 this).toInt = (I 197 this).toInt := by rw [eI_1331, pq_uf _ _ _ (by decide)]
      have tt_1333 : (I_1331 193 this).toInt = (I 193 this).toInt := by rw [eI_1331, pq_uf _ _ _ (by decide)]
      have tt_1334 : (I_1331 194 this).toInt = (I 194 this).toInt := by rw [eI_1331, pq_uf _ _ _ (by decide)]
      refine lv_aload_n hx hb dX6_advance_60 rfl (lv_at hl 0 rfl) ?_
      refine pg_f (v := .int (I_1331 197 this)) (C := RX6) (T := TX6) (N := 6) hx hb hts (tw_i inlX6) hown hK hP hL_this hK_this (by decide) rfl 5 (by decide) (hts _ (tw_c tw_662)) rfl dX6_advance_61 ?_
      have h_1335 : rg (I_1331 197 this) 0 300 := GX.rI hG 197 rfl
      have uh_1335 := h_1335.1
      have vh_1335 := h_1335.2
      refine lv_aload_n hx hb dX6_advance_64 rfl (lv_at hl 0 rfl) ?_
      refine pg_f (v := .int (I_1331 193 this)) (C := RX6) (T := TX6) (N := 6) hx hb hts (tw_i inlX6) hown hK hP hL_this hK_this (by decide) rfl 1 (by decide) (hts _ (tw_c tw_626)) rfl dX6_advance_65 ?_
      have h_1336 : rg (I_1331 193 this) 0 300 := GX.rI hG 193 rfl
      have uh_1336 := h_1336.1
      have vh_1336 := h_1336.2
      refine lv_icmp_lt (tgt := 80) hx hb dX6_advance_68 (by decide) (fun c_1337 => ?_) (fun c_1337 => ?_)
      · have tc_1338 : (I_1331 197 this).toInt < (I_1331 193 this).toInt := Int32.lt_iff_toInt_lt.mp c_1337
        have h_1339 : rg (I_1331 197 this) 0 299 := rg_lt1 c_1337 h_1335 h_1336 (by decide)
        have uh_1339 := h_1339.1
        have vh_1339 := h_1339.2
        have h_1340 : rg (I_1331 193 this) 1 300 := rg_lt2 c_1337 h_1335 h_1336 (by decide)
        have uh_1340 := h_1340.1
        have vh_1340 := h_1340.2
        refine lv_aload_n hx hb dX6_advance_80 rfl (lv_at hl 0 rfl) ?_
        obtain ⟨w_1341, hR_w_1341, hL_w_1341, hK_w_1341, hN_w_1341, hT_w_1341⟩ := sh_a hSH 192 (ci := 6) (kd := 13) (len := 300) rfl (by decide) hL_this hK_this
        refine pg_f (v := .ref w_1341) (C := RX6) (T := TX6) (N := 6) hx hb hts (tw_i inlX6) hown hK hP hL_this hK_this (by decide) rfl 0 (by decide) (hts _ (tw_c tw_165)) (pq_hv rfl hR_w_1341) dX6_advance_81 ?_
        refine lv_aload_n hx hb dX6_advance_84 rfl (lv_at hl 0 rfl) ?_
        refine pg_f (v := .int (I_1331 197 this)) (C := RX6) (T := TX6) (N := 6) hx hb hts (tw_i inlX6) hown hK hP hL_this hK_this (by decide) rfl 5 (by decide) (hts _ (tw_c tw_662)) rfl dX6_advance_85 ?_
        refine pl_i hx hb hK hP hL_w_1341 hK_w_1341 hN_w_1341 (rg_in h_1339 (by decide)) dX6_advance_88 ?_
        refine lv_topi (fun x_1342 ex_1342 => ?_)
        have ex_1342 : x_1342 = ri w_1341 ((I_1331 197 this)).toNatClampNeg := ex_1342
        refine pk_i (va_runS (As := [.int x_1342]) (rest := []) ⟨hx, hb, hml, hown, hts⟩ (s_X6_isDigit_x l D t σ I_1331 J ri rj rq H.size tg hSH hG.1 x_1342) (va_cwS 1 hts (tw_S tw_669 tw_670 tw_153 tw_671) rfl rfl rfl cd_yX6_isDigit_1 ⟨Nat.le_of_ble_eq_true rfl, Nat.le_of_ble_eq_true rfl⟩) ⟨pq_blind, pq_pre hK hN hP hD⟩ rfl rfl hl.1 rfl (lv_room (Nat.le_of_ble_eq_true rfl)) dX6_advance_89 ⟨Nat.le_of_ble_eq_true rfl, Nat.le_of_ble_eq_true rfl⟩) hD hS hA (fun x_1343 σ1 μ1 H locs hw_1344 hP hD hS => ?_)
        obtain ⟨hu_1345, hr_1347⟩ := hw_1344
        obtain ⟨hu_1345a, hu_1345b⟩ := Prod.mk.inj hu_1345
        rw [hu_1345a, hu_1345b] at hP hD
        have h_1348 : rg x_1343 0 1 := by rcases hr_1347 with ⟨q, -⟩ | ⟨q, -⟩ <;> rw [q] <;> exact ⟨by decide, by decide⟩
        have uh_1348 := h_1348.1
        have vh_1348 := h_1348.2
        refine lv_if_eq (tgt := 102) hx hb dX6_advance_92 (by decide) (fun c_1349 => ?_) (fun c_1349 => ?_)
        · have f_1350 := (hr_1347.resolve_left (fun q => absurd (q.1.symm.trans c_1349) (by decide))).2
          have tc_1351 : (x_1343).toInt = 0 := congrArg Int32.toInt c_1349
          have h_1352 : rg x_1343 0 0 := rg_and h_1348 (rg_of_eq c_1349 (rg_k (0 : Int32) 0 rfl)) (by decide)
          have uh_1352 := h_1352.1
          have vh_1352 := h_1352.2
          refine lv_aload_n hx hb dX6_advance_102 rfl (lv_at hl 0 rfl) ?_
          refine pg_f (v := .ref w_1341) (C := RX6) (T := TX6) (N := 6) hx hb hts (tw_i inlX6) hown hK hP hL_this hK_this (by decide) rfl 0 (by decide) (hts _ (tw_c tw_165)) (pq_hv rfl hR_w_1341) dX6_advance_103 ?_
          refine lv_aload_n hx hb dX6_advance_106 rfl (lv_at hl 0 rfl) ?_
          refine pg_f (v := .int (I_1331 197 this)) (C := RX6) (T := TX6) (N := 6) hx hb hts (tw_i inlX6) hown hK hP hL_this hK_this (by decide) rfl 5 (by decide) (hts _ (tw_c tw_662)) rfl dX6_advance_107 ?_
          refine pl_i hx hb hK hP hL_w_1341 hK_w_1341 hN_w_1341 (rg_in h_1339 (by decide)) dX6_advance_110 ?_
          refine lv_tov x_1342 ex_1342.symm ?_
          refine pk_i (va_runS (As := [.int x_1342]) (rest := []) ⟨hx, hb, hml, hown, hts⟩ (s_X6_isLetter_x l D t σ I_1331 J ri rj rq H.size tg hSH hG.1 x_1342) (va_cwS 1 hts (tw_S tw_678 tw_679 tw_153 tw_680) rfl rfl rfl cd_yX6_isLetter_1 ⟨Nat.le_of_ble_eq_true rfl, Nat.le_of_ble_eq_true rfl⟩) ⟨pq_blind, pq_pre hK hN hP hD⟩ rfl rfl hl.1 rfl (lv_room (Nat.le_of_ble_eq_true rfl)) dX6_advance_111 ⟨Nat.le_of_ble_eq_true rfl, Nat.le_of_ble_eq_true rfl⟩) hD hS hA (fun x_1353 σ1 μ1 H locs hw_1354 hP hD hS => ?_)
          obtain ⟨hu_1355, hr_1357⟩ := hw_1354
          obtain ⟨hu_1355a, hu_1355b⟩ := Prod.mk.inj hu_1355
          rw [hu_1355a, hu_1355b] at hP hD
          have h_1358 : rg x_1353 0 1 := by rcases hr_1357 with ⟨q, -⟩ | ⟨q, -⟩ <;> rw [q] <;> exact ⟨by decide, by decide⟩
          have uh_1358 := h_1358.1
          have vh_1358 := h_1358.2
          refine lv_if_eq (tgt := 124) hx hb dX6_advance_114 (by decide) (fun c_1359 => ?_) (fun c_1359 => ?_)
          · have f_1360 := (hr_1357.resolve_left (fun q => absurd (q.1.symm.trans c_1359) (by decide))).2
            have tc_1361 : (x_1353).toInt = 0 := congrArg Int32.toInt c_1359
            have h_1362 : rg x_1353 0 0 := rg_and h_1358 (rg_of_eq c_1359 (rg_k (0 : Int32) 0 rfl)) (by decide)
            have uh_1362 := h_1362.1
            have vh_1362 := h_1362.2
            refine lv_aload_n hx hb dX6_advance_124 rfl (lv_at hl 0 rfl) ?_
            refine lv_aload_n hx hb dX6_advance_125 rfl (lv_at hl 0 rfl) ?_
            refine pg_f (v := .ref w_1341) (C := RX6) (T := TX6) (N := 6) hx hb hts (tw_i inlX6) hown hK hP hL_this hK_this (by decide) rfl 0 (by decide) (hts _ (tw_c tw_165)) (pq_hv rfl hR_w_1341) dX6_advance_126 ?_
            refine lv_aload_n hx hb dX6_advance_129 rfl (lv_at hl 0 rfl) ?_
            refine pg_f (v := .int (I_1331 197 this)) (C := RX6) (T := TX6) (N := 6) hx hb hts (tw_i inlX6) hown hK hP hL_this hK_this (by decide) rfl 5 (by decide) (hts _ (tw_c tw_662)) rfl dX6_advance_130 ?_
            refine pl_i hx hb hK hP hL_w_1341 hK_w_1341 hN_w_1341 (rg_in h_1339 (by decide)) dX6_advance_133 ?_
            refine lv_tov x_1342 ex_1342.symm ?_
            refine pk_i (va_runS (As := [.int x_1342]) (rest := [.ref this]) ⟨hx, hb, hml, hown, hts⟩ (s_X6_signOf l D t σ I_1331 J ri rj rq H.size tg hSH hG.1 x_1342) (va_cwS 1 hts (tw_S tw_734 tw_735 tw_153 tw_736) rfl rfl rfl cd_yX6_signOf_1 ⟨Nat.le_of_ble_eq_true rfl, Nat.le_of_ble_eq_true rfl⟩) ⟨pq_blind, pq_pre hK hN hP hD⟩ rfl rfl hl.1 rfl (lv_room (Nat.le_of_ble_eq_true rfl)) dX6_advance_134 ⟨Nat.le_of_ble_eq_true rfl, Nat.le_of_ble_eq_true rfl⟩) hD hS hA (fun x_1363 σ1 μ1 H locs hw_1364 hP hD hS => ?_)
            obtain ⟨hu_1365, hr_1367⟩ := hw_1364
            obtain ⟨hu_1365a, hu_1365b⟩ := Prod.mk.inj hu_1365
            rw [hu_1365a, hu_1365b] at hP hD
            refine pp_i (v := x_1363) (ty := .int) (C := RX6) (T := TX6) (N := 6) hx hb hts (tw_i inlX6) tyX6 tyX6_ok nmX6 hown hK hP hD hS hL_this hK_this (by decide) rfl 2 194 (by decide) (hts _ (tw_c tw_668)) rfl (tyX6_ok 2 (by decide)) rfl rfl (Nat.le_of_ble_eq_true rfl) (ps_194 _ _ _ _ _) dX6_advance_137 (fun I_1368 H locs eI_1368 hP hD hS => ?_)
            have hG := GX.wI hG 194 rfl eI_1368 (rg_w hr_1367 (by decide)) (by decide)
            have tt_1369 : (I_1368 197 this).toInt = (I_1331 197 this).toInt := by rw [eI_1368, pq_uf _ _ _ (by decide)]
            have tt_1370 : (I_1368 193 this).toInt = (I_1331 193 this).toInt := by rw [eI_1368, pq_uf _ _ _ (by decide)]
            have tt_1371 : (I_1368 194 this).toInt = (x_1363).toInt := by rw [eI_1368, pq_us]
            refine lv_aload_n hx hb dX6_advance_140 rfl (lv_at hl 0 rfl) ?_
            refine lv_dup hx hb dX6_advance_141 rfl ?_
            refine pg_f (v := .int (I_1368 197 this)) (C := RX6) (T := TX6) (N := 6) hx hb hts (tw_i inlX6) hown hK hP hL_this hK_this (by decide) rfl 5 (by decide) (hts _ (tw_c tw_662)) rfl dX6_advance_142 ?_
            have h_1372 : rg (I_1368 197 this) 0 299 := (by rw [eI_1368, pq_uf _ _ _ (by decide)]; exact h_1339)
            have uh_1372 := h_1372.1
            have vh_1372 := h_1372.2
            refine lv_iconst (v := 1) hx hb dX6_advance_145 (by decide) ?_
            refine lv_iadd hx hb dX6_advance_146 ?_
            refine lv_topi (fun x_1373 ex_1373 => ?_)
            have h_1374 : rg x_1373 1 300 := rg_of_eq ex_1373 (rg_add h_1372 (rg_k (1 : Int32) 1 rfl) (by decide))
            have uh_1374 := h_1374.1
            have vh_1374 := h_1374.2
            have tx_1373 : (x_1373).toInt = (I_1368 197 this).toInt + 1 := by rw [ex_1373]; exact i_add_rg (a2 := (I_1368 197 this).toInt) (b2 := 1) rfl rfl h_1372 (rg_k (1 : Int32) 1 rfl) (by decide)
            refine pp_i (v := x_1373) (ty := .int) (C := RX6) (T := TX6) (N := 6) hx hb hts (tw_i inlX6) tyX6 tyX6_ok nmX6 hown hK hP hD hS hL_this hK_this (by decide) rfl 5 197 (by decide) (hts _ (tw_c tw_662)) rfl (tyX6_ok 5 (by decide)) rfl rfl (Nat.le_of_ble_eq_true rfl) (ps_197 _ _ _ _ _) dX6_advance_147 (fun I_1375 H locs eI_1375 hP hD hS => ?_)
            have hG := GX.wI hG 197 rfl eI_1375 (rg_w h_1374 (by decide)) (by decide)
            have tt_1376 : (I_1375 197 this).toInt = (x_1373).toInt := by rw [eI_1375, pq_us]
            have tt_1377 : (I_1375 193 this).toInt = (I_1368 193 this).toInt := by rw [eI_1375, pq_uf _ _ _ (by decide)]
            have tt_1378 : (I_1375 194 this).toInt = (I_1368 194 this).toInt := by rw [eI_1375, pq_uf _ _ _ (by decide)]
            refine lv_aload_n hx hb dX6_advance_150 rfl (lv_at hl 0 rfl) ?_
            refine pk_v (va_runV (As := []) (rest := []) ⟨hx, hb, hml, hown, hts⟩ (s_X6_takeLonger_x l D t σ I_1375 J ri rj rq H.size tg hSH hG.1 this hL_this hK_this) (cwV 0 hts (tw_V tw_737 tw_738 tw_739 tw_153 tw_740) rfl rfl rfl cv_yX6_takeLonger_0 ⟨Nat.le_of_ble_eq_true rfl, Nat.le_of_ble_eq_true rfl⟩) ⟨pq_blind, pq_recv hK hP hL_this hK_this (by decide) rfl, pq_pre hK hN hP hD⟩ rfl rfl hl.1 rfl (lv_room (Nat.le_of_ble_eq_true rfl)) dX6_advance_151 ⟨Nat.le_of_ble_eq_true rfl, Nat.le_of_ble_eq_true rfl⟩) hD hS hA (fun σ1 μ1 H locs hw_1380 hP hD hS => ?_)
            obtain ⟨I_1381, hu_1382, hg_1383, hp_1385⟩ := hw_1380
            obtain ⟨hu_1382a, hu_1382b⟩ := Prod.mk.inj hu_1382
            rw [hu_1382a, hu_1382b] at hP hD
            have tt_1386 := hp_1385
            have hG := GX.tr hG hg_1383 (by decide)
            have tt_1387 : (I_1381 193 this).toInt = (I_1375 193 this).toInt := by rw [hg_1383.2.1 193 (by decide) (by decide)]
            subst hQ
            exact W.vret hx hb hr (fun t1 ht hW => ⟨⟨(σ, I_1381, J, ri, rj, rq), rfl, ⟨I_1381, rfl, hG, (by omega), (by omega)⟩, by rw [ht]; exact hP, va_K.moved hW.alike hK, hD⟩, hS.F ht⟩) hS.2.2 dX6_advance_154
          · obtain ⟨f_1388, f_1389⟩ := (hr_1357.resolve_right (fun q => c_1359 q.1)).2
            have uf_1388 := f_1388.1
            have vf_1388 := f_1388.2
            have tc_1390 : (x_1353).toInt ≠ 0 := fun q => c_1359 (Int32.toInt_inj.mp q)
            have h_1391 : rg x_1353 1 1 := rg_ne c_1359 h_1358 0 rfl (by decide)
            have uh_1391 := h_1391.1
            have vh_1391 := h_1391.2
            refine lv_aload_n hx hb dX6_advance_117 rfl (lv_at hl 0 rfl) ?_
            have tt_1392 := congrArg Int32.toInt ex_1342
            refine pk_v (va_runV (As := []) (rest := []) ⟨hx, hb, hml, hown, hts⟩ (s_X6_takeWord l D t σ I_1331 J ri rj rq H.size aK aV vF tg hSH hG.1 this hL_this hK_this w_1341 hR_w_1341 hL_w_1341 hK_w_1341 hN_w_1341 hT_w_1341 (by omega) (by omega)) (cwV 0 hts (tw_V tw_681 tw_682 tw_683 tw_153 tw_684) rfl rfl rfl cv_yX6_takeWord_0 ⟨Nat.le_of_ble_eq_true rfl, Nat.le_of_ble_eq_true rfl⟩) ⟨pq_blindS, pq_recv hK hP hL_this hK_this (by decide) rfl, pq_preS hK hN hP hD hS hA hW0⟩ rfl rfl hl.1 rfl (lv_room (Nat.le_of_ble_eq_true rfl)) dX6_advance_118 ⟨Nat.le_of_ble_eq_true rfl, Nat.le_of_ble_eq_true rfl⟩) hD hS hA (fun σ1 μ1 H locs hw_1394 hP hD hS => ?_)
            obtain ⟨I_1395, hu_1396, hg_1397, hp_1399⟩ := hw_1394
            obtain ⟨hu_1396a, hu_1396b⟩ := Prod.mk.inj hu_1396
            rw [hu_1396a, hu_1396b] at hP hD
            have tt_1400 := hp_1399
            have hG := GX.tr hG hg_1397 (by decide)
            have tt_1401 : (I_1395 193 this).toInt = (I_1331 193 this).toInt := by rw [hg_1397.2.1 193 (by decide) (by decide)]
            refine lv_goto (tgt := 154) hx hb dX6_advance_121 (by decide) ?_
            subst hQ
            exact W.vret hx hb hr (fun t1 ht hW => ⟨⟨(σ, I_1395, J, ri, rj, rq), rfl, ⟨I_1395, rfl, hG, (by omega), (by omega)⟩, by rw [ht]; exact hP, va_K.moved hW.alike hK, hD⟩, hS.F ht⟩) hS.2.2 dX6_advance_154
        · obtain ⟨f_1402, f_1403⟩ := (hr_1347.resolve_right (fun q => c_1349 q.1)).2
          have uf_1402 := f_1402.1
          have vf_1402 := f_1402.2
          have tc_1404 : (x_1343).toInt ≠ 0 := fun q => c_1349 (Int32.toInt_inj.mp q)
          have h_1405 : rg x_1343 1 1 := rg_ne c_1349 h_1348 0 rfl (by decide)
          have uh_1405 := h_1405.1
          have vh_1405 := h_1405.2
          refine lv_aload_n hx hb dX6_advance_95 rfl (lv_at hl 0 rfl) ?_
          have tt_1406 := congrArg Int32.toInt ex_1342
          refine pk_v (va_runV (As := []) (rest := []) ⟨hx, hb, hml, hown, hts⟩ (s_X6_takeNumber_x l D t σ I_1331 J ri rj rq H.size tg hSH hG.1 this hL_this hK_this w_1341 hR_w_1341 hL_w_1341 hK_w_1341 hN_w_1341 hT_w_1341 (by omega) (by omega)) (cwV 0 hts (tw_V tw_672 tw_673 tw_674 tw_153 tw_675) rfl rfl rfl cv_yX6_takeNumber_0 ⟨Nat.le_of_ble_eq_true rfl, Nat.le_of_ble_eq_true rfl⟩) ⟨pq_blind, pq_recv hK hP hL_this hK_this (by decide) rfl, pq_pre hK hN hP hD⟩ rfl rfl hl.1 rfl (lv_room (Nat.le_of_ble_eq_true rfl)) dX6_advance_96 ⟨Nat.le_of_ble_eq_true rfl, Nat.le_of_ble_eq_true rfl⟩) hD hS hA (fun σ1 μ1 H locs hw_1408 hP hD hS => ?_)
          obtain ⟨I_1409, hu_1410, hg_1411, hp_1413⟩ := hw_1408
          obtain ⟨hu_1410a, hu_1410b⟩ := Prod.mk.inj hu_1410
          rw [hu_1410a, hu_1410b] at hP hD
          have tt_1414 := hp_1413
          have hG := GX.tr hG hg_1411 (by decide)
          have tt_1415 : (I_1409 193 this).toInt = (I_1331 193 this).toInt := by rw [hg_1411.2.1 193 (by decide) (by decide)]
          refine lv_goto (tgt := 154) hx hb dX6_advance_99 (by decide) ?_
          subst hQ
          exact W.vret hx hb hr (fun t1 ht hW => ⟨⟨(σ, I_1409, J, ri, rj, rq), rfl, ⟨I_1409, rfl, hG, (by omega), (by omega)⟩, by rw [ht]; exact hP, va_K.moved hW.alike hK, hD⟩, hS.F ht⟩) hS.2.2 dX6_advance_154
      · have tc_1416 : (I_1331 193 this).toInt ≤ (I_1331 197 this).toInt := Int32.le_iff_toInt_le.mp (nlt c_1337)
        refine lv_aload_n hx hb dX6_advance_71 rfl (lv_at hl 0 rfl) ?_
        refine lv_bipush (v := 33) hx hb dX6_advance_72 (by decide) ?_
        refine pp_i (v := 33) (ty := .int) (C := RX6) (T := TX6) (N := 6) hx hb hts (tw_i inlX6) tyX6 tyX6_ok nmX6 hown hK hP hD hS hL_this hK_this (by decide) rfl 2 194 (by decide) (hts _ (tw_c tw_668)) rfl (tyX6_ok 2 (by decide)) rfl rfl (Nat.le_of_ble_eq_true rfl) (ps_194 _ _ _ _ _) dX6_advance_74 (fun I_1417 H locs eI_1417 hP hD hS => ?_)
        have hG := GX.wI hG 194 rfl eI_1417 (rg_w (rg_k (33 : Int32) 33 rfl) (by decide)) (by decide)
        have tt_1418 : (I_1417 197 this).toInt = (I_1331 197 this).toInt := by rw [eI_1417, pq_uf _ _ _ (by decide)]
        have tt_1419 : (I_1417 193 this).toInt = (I_1331 193 this).toInt := by rw [eI_1417, pq_uf _ _ _ (by decide)]
        have tt_1420 : (I_1417 194 this).toInt = 33 := by rw [eI_1417, pq_us]; rfl
        refine lv_goto (tgt := 154) hx hb dX6_advance_77 (by decide) ?_
        subst hQ
        exact W.vret hx hb hr (fun t1 ht hW => ⟨⟨(σ, I_1417, J, ri, rj, rq), rfl, ⟨I_1417, rfl, hG, (by omega), (by omega)⟩, by rw [ht]; exact hP, va_K.moved hW.alike hK, hD⟩, hS.F ht⟩) hS.2.2 dX6_advance_154
    refine lv_icmp_ge (tgt := 52) hx hb dX6_advance_8 (by decide) (fun c_1421 => ?_) (fun c_1421 => ?_)
    · have tc_1422 : (I 193 this).toInt ≤ (I 197 this).toInt := Int32.le_iff_toInt_le.mp c_1421
      exact K_1330 _ _ _ hG hP hD hS (lv_sub hl [0] rfl)
    · have tc_1423 : (I 197 this).toInt < (I 193 this).toInt := Int32.lt_iff_toInt_lt.mp (nle c_1421)
      have h_1424 : rg (I 197 this) 0 299 := rg_lt1 (nle c_1421) h_1 h_2 (by decide)
      have uh_1424 := h_1424.1
      have vh_1424 := h_1424.2
      have h_1425 : rg (I 193 this) 1 300 := rg_lt2 (nle c_1421) h_1 h_2 (by decide)
      have uh_1425 := h_1425.1
      have vh_1425 := h_1425.2
      refine lv_aload_n hx hb dX6_advance_11 rfl (lv_at hl 0 rfl) ?_
      obtain ⟨w_1426, hR_w_1426, hL_w_1426, hK_w_1426, hN_w_1426, hT_w_1426⟩ := sh_a hSH 192 (ci := 6) (kd := 13) (len := 300) rfl (by decide) hL_this hK_this
      refine pg_f (v := .ref w_1426) (C := RX6) (T := TX6) (N := 6) hx hb hts (tw_i inlX6) hown hK hP hL_this hK_this (by decide) rfl 0 (by decide) (hts _ (tw_c tw_165)) (pq_hv rfl hR_w_1426) dX6_advance_12 ?_
      refine lv_aload_n hx hb dX6_advance_15 rfl (lv_at hl 0 rfl) ?_
      refine pg_f (v := .int (I 197 this)) (C := RX6) (T := TX6) (N := 6) hx hb hts (tw_i inlX6) hown hK hP hL_this hK_this (by decide) rfl 5 (by decide) (hts _ (tw_c tw_662)) rfl dX6_advance_16 ?_
      refine pl_i hx hb hK hP hL_w_1426 hK_w_1426 hN_w_1426 (rg_in h_1424 (by decide)) dX6_advance_19 ?_
      refine lv_topi (fun x_1427 ex_1427 => ?_)
      have ex_1427 : x_1427 = ri w_1426 ((I 197 this)).toNatClampNeg := ex_1427
      refine lv_bipush (v := 32) hx hb dX6_advance_20 (by decide) ?_
      refine lv_icmp_eq (tgt := 39) hx hb dX6_advance_22 (by decide) (fun c_1428 => ?_) (fun c_1428 => ?_)
      · have tc_1429 : (x_1427).toInt = 32 := congrArg Int32.toInt c_1428
        have h_1430 : rg x_1427 32 32 := rg_and (rg_full _) (rg_of_eq c_1428 (rg_k (32 : Int32) 32 rfl)) (by decide)
        have uh_1430 := h_1430.1
        have vh_1430 := h_1430.2
        refine lv_aload_n hx hb dX6_advance_39 rfl (lv_at hl 0 rfl) ?_
        refine lv_dup hx hb dX6_advance_40 rfl ?_
        refine pg_f (v := .int (I 197 this)) (C := RX6) (T := TX6) (N := 6) hx hb hts (tw_i inlX6) hown hK hP hL_this hK_this (by decide) rfl 5 (by decide) (hts _ (tw_c tw_662)) rfl dX6_advance_41 ?_
        refine lv_iconst (v := 1) hx hb dX6_advance_44 (by decide) ?_
        refine lv_iadd hx hb dX6_advance_45 ?_
        refine lv_topi (fun x_1431 ex_1431 => ?_)
        have h_1432 : rg x_1431 1 300 := rg_of_eq ex_1431 (rg_add h_1424 (rg_k (1 : Int32) 1 rfl) (by decide))
        have uh_1432 := h_1432.1
        have vh_1432 := h_1432.2
        have tx_1431 : (x_1431).toInt = (I 197 this).toInt + 1 := by rw [ex_1431]; exact i_add_rg (a2 := (I 197 this).toInt) (b2 := 1) rfl rfl h_1424 (rg_k (1 : Int32) 1 rfl) (by decide)
        refine pp_i (v := x_1431) (ty := .int) (C := RX6) (T := TX6) (N := 6) hx hb hts (tw_i inlX6) tyX6 tyX6_ok nmX6 hown hK hP hD hS hL_this hK_this (by decide) rfl 5 197 (by decide) (hts _ (tw_c tw_662)) rfl (tyX6_ok 5 (by decide)) rfl rfl (Nat.le_of_ble_eq_true rfl) (ps_197 _ _ _ _ _) dX6_advance_46 (fun I_1433 H locs eI_1433 hP hD hS => ?_)
        have hG := GX.wI hG 197 rfl eI_1433 (rg_w h_1432 (by decide)) (by decide)
        have tt_1434 : (I_1433 197 this).toInt = (x_1431).toInt := by rw [eI_1433, pq_us]
        have tt_1435 : (I_1433 193 this).toInt = (I 193 this).toInt := by rw [eI_1433, pq_uf _ _ _ (by decide)]
        have tt_1436 : (I_1433 194 this).toInt = (I 194 this).toInt := by rw [eI_1433, pq_uf _ _ _ (by decide)]
        refine lv_goto (tgt := 0) hx hb dX6_advance_49 (by decide) ?_
        have L_1922 : ∀ (n_1921 : Nat) (I_1799 : Nat → Nat → Int32) (H : Heap) (locs : List Loc) (ls : Array Slot), ((I 197 this).toInt ≤ (I_1799 197 this).toInt ∧ (I_1799 193 this).toInt = (I 193 this).toInt) → (300 - (I_1799 197 this).toInt).toNat < n_1921 → GX [197, 194] tg σ I ri rj I_1799 ri rj rq → va_P D vwCl (pq_P t σ (I_1799, J, ri, rj, rq)) H → va_D A (pq_P t σ (I_1799, J, ri, rj, rq)) → va_S A s.heap H locs → lv_has ls 1 [(0, .ref this)] → W p l e ({ frames := 5, cells := 0, slots := 0, locals := 109 } : Room) s m (List.toArray ([.ref this] : List Value)) below meth c H locs 0 0 Q (F0 m 0 ls []) := by
          intro n_1921
          induction n_1921 with
          | zero => intro I_1799 H locs ls hrel_1925 hm_1920 hG hP hD hS hl; exact absurd hm_1920 (Nat.not_lt_zero _)
          | succ n_1921 ih_1923 =>
            intro I_1799 H locs ls hrel_1925 hm_1920 hG hP hD hS hl
            refine lv_aload_n hx hb dX6_advance_0 rfl (lv_at hl 0 rfl) ?_
            refine pg_f (v := .int (I_1799 197 this)) (C := RX6) (T := TX6) (N := 6) hx hb hts (tw_i inlX6) hown hK hP hL_this hK_this (by decide) rfl 5 (by decide) (hts _ (tw_c tw_662)) rfl dX6_advance_1 ?_
            have h_1926 : rg (I_1799 197 this) 0 300 := GX.rI hG 197 rfl
            have uh_1926 := h_1926.1
            have vh_1926 := h_1926.2
            refine lv_aload_n hx hb dX6_advance_4 rfl (lv_at hl 0 rfl) ?_
            refine pg_f (v := .int (I_1799 193 this)) (C := RX6) (T := TX6) (N := 6) hx hb hts (tw_i inlX6) hown hK hP hL_this hK_this (by decide) rfl 1 (by decide) (hts _ (tw_c tw_626)) rfl dX6_advance_5 ?_
            have h_1927 : rg (I_1799 193 this) 1 300 := (by rw [hG.2.1 193 (by decide) (by decide)]; exact h_1425)
            have uh_1927 := h_1927.1
            have vh_1927 := h_1927.2
            have K_2045 : ∀  (H : Heap) (locs : List Loc) (ls : Array Slot), GX [197, 194] tg σ I ri rj I_1799 ri rj rq → va_P D vwCl (pq_P t σ (I_1799, J, ri, rj, rq)) H → va_D A (pq_P t σ (I_1799, J, ri, rj, rq)) → va_S A s.heap H locs → lv_has ls 1 [(0, .ref this)] → W p l e ({ frames := 5, cells := 0, slots := 0, locals := 109 } : Room) s m (List.toArray ([.ref this] : List Value)) below meth c H locs 0 0 Q (F0 m 52 ls []) := by
              intro H locs ls hG hP hD hS hl
              refine lv_aload_n hx hb dX6_advance_52 rfl (lv_at hl 0 rfl) ?_
              refine lv_aload_n hx hb dX6_advance_53 rfl (lv_at hl 0 rfl) ?_
              refine pg_f (v := .int (I_1799 197 this)) (C := RX6) (T := TX6) (N := 6) hx hb hts (tw_i inlX6) hown hK hP hL_this hK_this (by decide) rfl 5 (by decide) (hts _ (tw_c tw_662)) rfl dX6_advance_54 ?_
              refine pp_i (v := (I_1799 197 this)) (ty := .int) (C := RX6) (T := TX6) (N := 6) hx hb hts (tw_i inlX6) tyX6 tyX6_ok nmX6 hown hK hP hD hS hL_this hK_this (by decide) rfl 3 195 (by decide) (hts _ (tw_c tw_667)) rfl (tyX6_ok 3 (by decide)) rfl rfl (Nat.le_of_ble_eq_true rfl) (ps_195 _ _ _ _ _) dX6_advance_57 (fun I_2046 H locs eI_2046 hP hD hS => ?_)
              have hG := GX.wI hG 195 rfl eI_2046 (rg_w h_1926 (by decide)) (by decide)
              have tt_2047 : (I_2046 197 this).toInt = (I_1799 197 this).toInt := by rw [eI_2046, pq_uf _ _ _ (by decide)]
              have tt_2048 : (I_2046 193 this).toInt = (I_1799 193 this).toInt := by rw [eI_2046, pq_uf _ _ _ (by decide)]
              have tt_2049 : (I_2046 194 this).toInt = (I_1799 194 this).toInt := by rw [eI_2046, pq_uf _ _ _ (by decide)]
              refine lv_aload_n hx hb dX6_advance_60 rfl (lv_at hl 0 rfl) ?_
              refine pg_f (v := .int (I_2046 197 this)) (C := RX6) (T := TX6) (N := 6) hx hb hts (tw_i inlX6) hown hK hP hL_this hK_this (by decide) rfl 5 (by decide) (hts _ (tw_c tw_662)) rfl dX6_advance_61 ?_
              have h_2050 : rg (I_2046 197 this) 0 300 := GX.rI hG 197 rfl
              have uh_2050 := h_2050.1
              have vh_2050 := h_2050.2
              refine lv_aload_n hx hb dX6_advance_64 rfl (lv_at hl 0 rfl) ?_
              refine pg_f (v := .int (I_2046 193 this)) (C := RX6) (T := TX6) (N := 6) hx hb hts (tw_i inlX6) hown hK hP hL_this hK_this (by decide) rfl 1 (by decide) (hts _ (tw_c tw_626)) rfl dX6_advance_65 ?_
              have h_2051 : rg (I_2046 193 this) 1 300 := (by rw [hG.2.1 193 (by decide) (by decide)]; exact h_1425)
              have uh_2051 := h_2051.1
              have vh_2051 := h_2051.2
              refine lv_icmp_lt (tgt := 80) hx hb dX6_advance_68 (by decide) (fun c_2052 => ?_) (fun c_2052 => ?_)
              · have tc_2053 : (I_2046 197 this).toInt < (I_2046 193 this).toInt := Int32.lt_iff_toInt_lt.mp c_2052
                have h_2054 : rg (I_2046 197 this) 0 299 := rg_lt1 c_2052 h_2050 h_2051 (by decide)
                have uh_2054 := h_2054.1
                have vh_2054 := h_2054.2
                refine lv_aload_n hx hb dX6_advance_80 rfl (lv_at hl 0 rfl) ?_
                refine pg_f (v := .ref w_1426) (C := RX6) (T := TX6) (N := 6) hx hb hts (tw_i inlX6) hown hK hP hL_this hK_this (by decide) rfl 0 (by decide) (hts _ (tw_c tw_165)) (pq_hv rfl hR_w_1426) dX6_advance_81 ?_
                refine lv_aload_n hx hb dX6_advance_84 rfl (lv_at hl 0 rfl) ?_
                refine pg_f (v := .int (I_2046 197 this)) (C := RX6) (T := TX6) (N := 6) hx hb hts (tw_i inlX6) hown hK hP hL_this hK_this (by decide) rfl 5 (by decide) (hts _ (tw_c tw_662)) rfl dX6_advance_85 ?_
                refine pl_i hx hb hK hP hL_w_1426 hK_w_1426 hN_w_1426 (rg_in h_2054 (by decide)) dX6_advance_88 ?_
                refine lv_topi (fun x_2055 ex_2055 => ?_)
                have ex_2055 : x_2055 = ri w_1426 ((I_2046 197 this)).toNatClampNeg := ex_2055
                refine pk_i (va_runS (As := [.int x_2055]) (rest := []) ⟨hx, hb, hml, hown, hts⟩ (s_X6_isDigit_x l D t σ I_2046 J ri rj rq H.size tg hSH hG.1 x_2055) (va_cwS 1 hts (tw_S tw_669 tw_670 tw_153 tw_671) rfl rfl rfl cd_yX6_isDigit_1 ⟨Nat.le_of_ble_eq_true rfl, Nat.le_of_ble_eq_true rfl⟩) ⟨pq_blind, pq_pre hK hN hP hD⟩ rfl rfl hl.1 rfl (lv_room (Nat.le_of_ble_eq_true rfl)) dX6_advance_89 ⟨Nat.le_of_ble_eq_true rfl, Nat.le_of_ble_eq_true rfl⟩) hD hS hA (fun x_2056 σ1 μ1 H locs hw_2057 hP hD hS => ?_)
                obtain ⟨hu_2058, hr_2060⟩ := hw_2057
                obtain ⟨hu_2058a, hu_2058b⟩ := Prod.mk.inj hu_2058
                rw [hu_2058a, hu_2058b] at hP hD
                have h_2061 : rg x_2056 0 1 := by rcases hr_2060 with ⟨q, -⟩ | ⟨q, -⟩ <;> rw [q] <;> exact ⟨by decide, by decide⟩
                have uh_2061 := h_2061.1
                have vh_2061 := h_2061.2
                refine lv_if_eq (tgt := 102) hx hb dX6_advance_92 (by decide) (fun c_2062 => ?_) (fun c_2062 => ?_)
                · have f_2063 := (hr_2060.resolve_left (fun q => absurd (q.1.symm.trans c_2062) (by decide))).2
                  have tc_2064 : (x_2056).toInt = 0 := congrArg Int32.toInt c_2062
                  have h_2065 : rg x_2056 0 0 := rg_and h_2061 (rg_of_eq c_2062 (rg_k (0 : Int32) 0 rfl)) (by decide)
                  have uh_2065 := h_2065.1
                  have vh_2065 := h_2065.2
                  refine lv_aload_n hx hb dX6_advance_102 rfl (lv_at hl 0 rfl) ?_
                  refine pg_f (v := .ref w_1426) (C := RX6) (T := TX6) (N := 6) hx hb hts (tw_i inlX6) hown hK hP hL_this hK_this (by decide) rfl 0 (by decide) (hts _ (tw_c tw_165)) (pq_hv rfl hR_w_1426) dX6_advance_103 ?_
                  refine lv_aload_n hx hb dX6_advance_106 rfl (lv_at hl 0 rfl) ?_
                  refine pg_f (v := .int (I_2046 197 this)) (C := RX6) (T := TX6) (N := 6) hx hb hts (tw_i inlX6) hown hK hP hL_this hK_this (by decide) rfl 5 (by decide) (hts _ (tw_c tw_662)) rfl dX6_advance_107 ?_
                  refine pl_i hx hb hK hP hL_w_1426 hK_w_1426 hN_w_1426 (rg_in h_2054 (by decide)) dX6_advance_110 ?_
                  refine lv_tov x_2055 ex_2055.symm ?_
                  refine pk_i (va_runS (As := [.int x_2055]) (rest := []) ⟨hx, hb, hml, hown, hts⟩ (s_X6_isLetter_x l D t σ I_2046 J ri rj rq H.size tg hSH hG.1 x_2055) (va_cwS 1 hts (tw_S tw_678 tw_679 tw_153 tw_680) rfl rfl rfl cd_yX6_isLetter_1 ⟨Nat.le_of_ble_eq_true rfl, Nat.le_of_ble_eq_true rfl⟩) ⟨pq_blind, pq_pre hK hN hP hD⟩ rfl rfl hl.1 rfl (lv_room (Nat.le_of_ble_eq_true rfl)) dX6_advance_111 ⟨Nat.le_of_ble_eq_true rfl, Nat.le_of_ble_eq_true rfl⟩) hD hS hA (fun x_2066 σ1 μ1 H locs hw_2067 hP hD hS => ?_)
                  obtain ⟨hu_2068, hr_2070⟩ := hw_2067
                  obtain ⟨hu_2068a, hu_2068b⟩ := Prod.mk.inj hu_2068
                  rw [hu_2068a, hu_2068b] at hP hD
                  have h_2071 : rg x_2066 0 1 := by rcases hr_2070 with ⟨q, -⟩ | ⟨q, -⟩ <;> rw [q] <;> exact ⟨by decide, by decide⟩
                  have uh_2071 := h_2071.1
                  have vh_2071 := h_2071.2
                  refine lv_if_eq (tgt := 124) hx hb dX6_advance_114 (by decide) (fun c_2072 => ?_) (fun c_2072 => ?_)
                  · have f_2073 := (hr_2070.resolve_left (fun q => absurd (q.1.symm.trans c_2072) (by decide))).2
                    have tc_2074 : (x_2066).toInt = 0 := congrArg Int32.toInt c_2072
                    have h_2075 : rg x_2066 0 0 := rg_and h_2071 (rg_of_eq c_2072 (rg_k (0 : Int32) 0 rfl)) (by decide)
                    have uh_2075 := h_2075.1
                    have vh_2075 := h_2075.2
                    refine lv_aload_n hx hb dX6_advance_124 rfl (lv_at hl 0 rfl) ?_
                    refine lv_aload_n hx hb dX6_advance_125 rfl (lv_at hl 0 rfl) ?_
                    refine pg_f (v := .ref w_1426) (C := RX6) (T := TX6) (N := 6) hx hb hts (tw_i inlX6) hown hK hP hL_this hK_this (by decide) rfl 0 (by decide) (hts _ (tw_c tw_165)) (pq_hv rfl hR_w_1426) dX6_advance_126 ?_
                    refine lv_aload_n hx hb dX6_advance_129 rfl (lv_at hl 0 rfl) ?_
                    refine pg_f (v := .int (I_2046 197 this)) (C := RX6) (T := TX6) (N := 6) hx hb hts (tw_i inlX6) hown hK hP hL_this hK_this (by decide) rfl 5 (by decide) (hts _ (tw_c tw_662)) rfl dX6_advance_130 ?_
                    refine pl_i hx hb hK hP hL_w_1426 hK_w_1426 hN_w_1426 (rg_in h_2054 (by decide)) dX6_advance_133 ?_
                    refine lv_tov x_2055 ex_2055.symm ?_
                    refine pk_i (va_runS (As := [.int x_2055]) (rest := [.ref this]) ⟨hx, hb, hml, hown, hts⟩ (s_X6_signOf l D t σ I_2046 J ri rj rq H.size tg hSH hG.1 x_2055) (va_cwS 1 hts (tw_S tw_734 tw_735 tw_153 tw_736) rfl rfl rfl cd_yX6_signOf_1 ⟨Nat.le_of_ble_eq_true rfl, Nat.le_of_ble_eq_true rfl⟩) ⟨pq_blind, pq_pre hK hN hP hD⟩ rfl rfl hl.1 rfl (lv_room (Nat.le_of_ble_eq_true rfl)) dX6_advance_134 ⟨Nat.le_of_ble_eq_true rfl, Nat.le_of_ble_eq_true rfl⟩) hD hS hA (fun x_2076 σ1 μ1 H locs hw_2077 hP hD hS => ?_)
                    obtain ⟨hu_2078, hr_2080⟩ := hw_2077
                    obtain ⟨hu_2078a, hu_2078b⟩ := Prod.mk.inj hu_2078
                    rw [hu_2078a, hu_2078b] at hP hD
                    refine pp_i (v := x_2076) (ty := .int) (C := RX6) (T := TX6) (N := 6) hx hb hts (tw_i inlX6) tyX6 tyX6_ok nmX6 hown hK hP hD hS hL_this hK_this (by decide) rfl 2 194 (by decide) (hts _ (tw_c tw_668)) rfl (tyX6_ok 2 (by decide)) rfl rfl (Nat.le_of_ble_eq_true rfl) (ps_194 _ _ _ _ _) dX6_advance_137 (fun I_2081 H locs eI_2081 hP hD hS => ?_)
                    have hG := GX.wI hG 194 rfl eI_2081 (rg_w hr_2080 (by decide)) (by decide)
                    have tt_2082 : (I_2081 197 this).toInt = (I_2046 197 this).toInt := by rw [eI_2081, pq_uf _ _ _ (by decide)]
                    have tt_2083 : (I_2081 193 this).toInt = (I_2046 193 this).toInt := by rw [eI_2081, pq_uf _ _ _ (by decide)]
                    have tt_2084 : (I_2081 194 this).toInt = (x_2076).toInt := by rw [eI_2081, pq_us]
                    refine lv_aload_n hx hb dX6_advance_140 rfl (lv_at hl 0 rfl) ?_
                    refine lv_dup hx hb dX6_advance_141 rfl ?_
                    refine pg_f (v := .int (I_2081 197 this)) (C := RX6) (T := TX6) (N := 6) hx hb hts (tw_i inlX6) hown hK hP hL_this hK_this (by decide) rfl 5 (by decide) (hts _ (tw_c tw_662)) rfl dX6_advance_142 ?_
                    have h_2085 : rg (I_2081 197 this) 0 299 := (by rw [eI_2081, pq_uf _ _ _ (by decide)]; exact h_2054)
                    have uh_2085 := h_2085.1
                    have vh_2085 := h_2085.2
                    refine lv_iconst (v := 1) hx hb dX6_advance_145 (by decide) ?_
                    refine lv_iadd hx hb dX6_advance_146 ?_
                    refine lv_topi (fun x_2086 ex_2086 => ?_)
                    have h_2087 : rg x_2086 1 300 := rg_of_eq ex_2086 (rg_add h_2085 (rg_k (1 : Int32) 1 rfl) (by decide))
                    have uh_2087 := h_2087.1
                    have vh_2087 := h_2087.2
                    have tx_2086 : (x_2086).toInt = (I_2081 197 this).toInt + 1 := by rw [ex_2086]; exact i_add_rg (a2 := (I_2081 197 this).toInt) (b2 := 1) rfl rfl h_2085 (rg_k (1 : Int32) 1 rfl) (by decide)
                    refine pp_i (v := x_2086) (ty := .int) (C := RX6) (T := TX6) (N := 6) hx hb hts (tw_i inlX6) tyX6 tyX6_ok nmX6 hown hK hP hD hS hL_this hK_this (by decide) rfl 5 197 (by decide) (hts _ (tw_c tw_662)) rfl (tyX6_ok 5 (by decide)) rfl rfl (Nat.le_of_ble_eq_true rfl) (ps_197 _ _ _ _ _) dX6_advance_147 (fun I_2088 H locs eI_2088 hP hD hS => ?_)
                    have hG := GX.wI hG 197 rfl eI_2088 (rg_w h_2087 (by decide)) (by decide)
                    have tt_2089 : (I_2088 197 this).toInt = (x_2086).toInt := by rw [eI_2088, pq_us]
                    have tt_2090 : (I_2088 193 this).toInt = (I_2081 193 this).toInt := by rw [eI_2088, pq_uf _ _ _ (by decide)]
                    have tt_2091 : (I_2088 194 this).toInt = (I_2081 194 this).toInt := by rw [eI_2088, pq_uf _ _ _ (by decide)]
                    refine lv_aload_n hx hb dX6_advance_150 rfl (lv_at hl 0 rfl) ?_
                    refine pk_v (va_runV (As := []) (rest := []) ⟨hx, hb, hml, hown, hts⟩ (s_X6_takeLonger_x l D t σ I_2088 J ri rj rq H.size tg hSH hG.1 this hL_this hK_this) (cwV 0 hts (tw_V tw_737 tw_738 tw_739 tw_153 tw_740) rfl rfl rfl cv_yX6_takeLonger_0 ⟨Nat.le_of_ble_eq_true rfl, Nat.le_of_ble_eq_true rfl⟩) ⟨pq_blind, pq_recv hK hP hL_this hK_this (by decide) rfl, pq_pre hK hN hP hD⟩ rfl rfl hl.1 rfl (lv_room (Nat.le_of_ble_eq_true rfl)) dX6_advance_151 ⟨Nat.le_of_ble_eq_true rfl, Nat.le_of_ble_eq_true rfl⟩) hD hS hA (fun σ1 μ1 H locs hw_2093 hP hD hS => ?_)
                    obtain ⟨I_2094, hu_2095, hg_2096, hp_2098⟩ := hw_2093
                    obtain ⟨hu_2095a, hu_2095b⟩ := Prod.mk.inj hu_2095
                    rw [hu_2095a, hu_2095b] at hP hD
                    have tt_2099 := hp_2098
                    have hG := GX.tr hG hg_2096 (by decide)
                    have tt_2100 : (I_2094 193 this).toInt = (I_2088 193 this).toInt := by rw [hg_2096.2.1 193 (by decide) (by decide)]
                    subst hQ
                    exact W.vret hx hb hr (fun t1 ht hW => ⟨⟨(σ, I_2094, J, ri, rj, rq), rfl, ⟨I_2094, rfl, hG, (by omega), (by omega)⟩, by rw [ht]; exact hP, va_K.moved hW.alike hK, hD⟩, hS.F ht⟩) hS.2.2 dX6_advance_154
                  · obtain ⟨f_2101, f_2102⟩ := (hr_2070.resolve_right (fun q => c_2072 q.1)).2
                    have uf_2101 := f_2101.1
                    have vf_2101 := f_2101.2
                    have tc_2103 : (x_2066).toInt ≠ 0 := fun q => c_2072 (Int32.toInt_inj.mp q)
                    have h_2104 : rg x_2066 1 1 := rg_ne c_2072 h_2071 0 rfl (by decide)
                    have uh_2104 := h_2104.1
                    have vh_2104 := h_2104.2
                    refine lv_aload_n hx hb dX6_advance_117 rfl (lv_at hl 0 rfl) ?_
                    have tt_2105 := congrArg Int32.toInt ex_1427
                    have tt_2106 := congrArg Int32.toInt ex_2055
                    refine pk_v (va_runV (As := []) (rest := []) ⟨hx, hb, hml, hown, hts⟩ (s_X6_takeWord l D t σ I_2046 J ri rj rq H.size aK aV vF tg hSH hG.1 this hL_this hK_this w_1426 hR_w_1426 hL_w_1426 hK_w_1426 hN_w_1426 hT_w_1426 (by omega) (by omega)) (cwV 0 hts (tw_V tw_681 tw_682 tw_683 tw_153 tw_684) rfl rfl rfl cv_yX6_takeWord_0 ⟨Nat.le_of_ble_eq_true rfl, Nat.le_of_ble_eq_true rfl⟩) ⟨pq_blindS, pq_recv hK hP hL_this hK_this (by decide) rfl, pq_preS hK hN hP hD hS hA hW0⟩ rfl rfl hl.1 rfl (lv_room (Nat.le_of_ble_eq_true rfl)) dX6_advance_118 ⟨Nat.le_of_ble_eq_true rfl, Nat.le_of_ble_eq_true rfl⟩) hD hS hA (fun σ1 μ1 H locs hw_2108 hP hD hS => ?_)
                    obtain ⟨I_2109, hu_2110, hg_2111, hp_2113⟩ := hw_2108
                    obtain ⟨hu_2110a, hu_2110b⟩ := Prod.mk.inj hu_2110
                    rw [hu_2110a, hu_2110b] at hP hD
                    have tt_2114 := hp_2113
                    have hG := GX.tr hG hg_2111 (by decide)
                    have tt_2115 : (I_2109 193 this).toInt = (I_2046 193 this).toInt := by rw [hg_2111.2.1 193 (by decide) (by decide)]
                    refine lv_goto (tgt := 154) hx hb dX6_advance_121 (by decide) ?_
                    subst hQ
                    exact W.vret hx hb hr (fun t1 ht hW => ⟨⟨(σ, I_2109, J, ri, rj, rq), rfl, ⟨I_2109, rfl, hG, (by omega), (by omega)⟩, by rw [ht]; exact hP, va_K.moved hW.alike hK, hD⟩, hS.F ht⟩) hS.2.2 dX6_advance_154
                · obtain ⟨f_2116, f_2117⟩ := (hr_2060.resolve_right (fun q => c_2062 q.1)).2
                  have uf_2116 := f_2116.1
                  have vf_2116 := f_2116.2
                  have tc_2118 : (x_2056).toInt ≠ 0 := fun q => c_2062 (Int32.toInt_inj.mp q)
                  have h_2119 : rg x_2056 1 1 := rg_ne c_2062 h_2061 0 rfl (by decide)
                  have uh_2119 := h_2119.1
                  have vh_2119 := h_2119.2
                  refine lv_aload_n hx hb dX6_advance_95 rfl (lv_at hl 0 rfl) ?_
                  have tt_2120 := congrArg Int32.toInt ex_1427
                  have tt_2121 := congrArg Int32.toInt ex_2055
                  refine pk_v (va_runV (As := []) (rest := []) ⟨hx, hb, hml, hown, hts⟩ (s_X6_takeNumber_x l D t σ I_2046 J ri rj rq H.size tg hSH hG.1 this hL_this hK_this w_1426 hR_w_1426 hL_w_1426 hK_w_1426 hN_w_1426 hT_w_1426 (by omega) (by omega)) (cwV 0 hts (tw_V tw_672 tw_673 tw_674 tw_153 tw_675) rfl rfl rfl cv_yX6_takeNumber_0 ⟨Nat.le_of_ble_eq_true rfl, Nat.le_of_ble_eq_true rfl⟩) ⟨pq_blind, pq_recv hK hP hL_this hK_this (by decide) rfl, pq_pre hK hN hP hD⟩ rfl rfl hl.1 rfl (lv_room (Nat.le_of_ble_eq_true rfl)) dX6_advance_96 ⟨Nat.le_of_ble_eq_true rfl, Nat.le_of_ble_eq_true rfl⟩) hD hS hA (fun σ1 μ1 H locs hw_2123 hP hD hS => ?_)
                  obtain ⟨I_2124, hu_2125, hg_2126, hp_2128⟩ := hw_2123
                  obtain ⟨hu_2125a, hu_2125b⟩ := Prod.mk.inj hu_2125
                  rw [hu_2125a, hu_2125b] at hP hD
                  have tt_2129 := hp_2128
                  have hG := GX.tr hG hg_2126 (by decide)
                  have tt_2130 : (I_2124 193 this).toInt = (I_2046 193 this).toInt := by rw [hg_2126.2.1 193 (by decide) (by decide)]
                  refine lv_goto (tgt := 154) hx hb dX6_advance_99 (by decide) ?_
                  subst hQ
                  exact W.vret hx hb hr (fun t1 ht hW => ⟨⟨(σ, I_2124, J, ri, rj, rq), rfl, ⟨I_2124, rfl, hG, (by omega), (by omega)⟩, by rw [ht]; exact hP, va_K.moved hW.alike hK, hD⟩, hS.F ht⟩) hS.2.2 dX6_advance_154
              · have tc_2131 : (I_2046 193 this).toInt ≤ (I_2046 197 this).toInt := Int32.le_iff_toInt_le.mp (nlt c_2052)
                have h_2132 : rg (I_2046 197 this) 1 300 := rg_le2 (nlt c_2052) h_2051 h_2050 (by decide)
                have uh_2132 := h_2132.1
                have vh_2132 := h_2132.2
                refine lv_aload_n hx hb dX6_advance_71 rfl (lv_at hl 0 rfl) ?_
                refine lv_bipush (v := 33) hx hb dX6_advance_72 (by decide) ?_
                refine pp_i (v := 33) (ty := .int) (C := RX6) (T := TX6) (N := 6) hx hb hts (tw_i inlX6) tyX6 tyX6_ok nmX6 hown hK hP hD hS hL_this hK_this (by decide) rfl 2 194 (by decide) (hts _ (tw_c tw_668)) rfl (tyX6_ok 2 (by decide)) rfl rfl (Nat.le_of_ble_eq_true rfl) (ps_194 _ _ _ _ _) dX6_advance_74 (fun I_2133 H locs eI_2133 hP hD hS => ?_)
                have hG := GX.wI hG 194 rfl eI_2133 (rg_w (rg_k (33 : Int32) 33 rfl) (by decide)) (by decide)
                have tt_2134 : (I_2133 197 this).toInt = (I_2046 197 this).toInt := by rw [eI_2133, pq_uf _ _ _ (by decide)]
                have tt_2135 : (I_2133 193 this).toInt = (I_2046 193 this).toInt := by rw [eI_2133, pq_uf _ _ _ (by decide)]
                have tt_2136 : (I_2133 194 this).toInt = 33 := by rw [eI_2133, pq_us]; rfl
                refine lv_goto (tgt := 154) hx hb dX6_advance_77 (by decide) ?_
                subst hQ
                exact W.vret hx hb hr (fun t1 ht hW => ⟨⟨(σ, I_2133, J, ri, rj, rq), rfl, ⟨I_2133, rfl, hG, (by omega), (by omega)⟩, by rw [ht]; exact hP, va_K.moved hW.alike hK, hD⟩, hS.F ht⟩) hS.2.2 dX6_advance_154
            refine lv_icmp_ge (tgt := 52) hx hb dX6_advance_8 (by decide) (fun c_2137 => ?_) (fun c_2137 => ?_)
            · have tc_2138 : (I_1799 193 this).toInt ≤ (I_1799 197 this).toInt := Int32.le_iff_toInt_le.mp c_2137
              have h_2139 : rg (I_1799 197 this) 1 300 := rg_le2 c_2137 h_1927 h_1926 (by decide)
              have uh_2139 := h_2139.1
              have vh_2139 := h_2139.2
              exact K_2045 _ _ _ hG hP hD hS (lv_sub hl [0] rfl)
            · have tc_2140 : (I_1799 197 this).toInt < (I_1799 193 this).toInt := Int32.lt_iff_toInt_lt.mp (nle c_2137)
              have h_2141 : rg (I_1799 197 this) 0 299 := rg_lt1 (nle c_2137) h_1926 h_1927 (by decide)
              have uh_2141 := h_2141.1
              have vh_2141 := h_2141.2
              refine lv_aload_n hx hb dX6_advance_11 rfl (lv_at hl 0 rfl) ?_
              refine pg_f (v := .ref w_1426) (C := RX6) (T := TX6) (N := 6) hx hb hts (tw_i inlX6) hown hK hP hL_this hK_this (by decide) rfl 0 (by decide) (hts _ (tw_c tw_165)) (pq_hv rfl hR_w_1426) dX6_advance_12 ?_
              refine lv_aload_n hx hb dX6_advance_15 rfl (lv_at hl 0 rfl) ?_
              refine pg_f (v := .int (I_1799 197 this)) (C := RX6) (T := TX6) (N := 6) hx hb hts (tw_i inlX6) hown hK hP hL_this hK_this (by decide) rfl 5 (by decide) (hts _ (tw_c tw_662)) rfl dX6_advance_16 ?_
              refine pl_i hx hb hK hP hL_w_1426 hK_w_1426 hN_w_1426 (rg_in h_2141 (by decide)) dX6_advance_19 ?_
              refine lv_topi (fun x_2142 ex_2142 => ?_)
              have ex_2142 : x_2142 = ri w_1426 ((I_1799 197 this)).toNatClampNeg := ex_2142
              refine lv_bipush (v := 32) hx hb dX6_advance_20 (by decide) ?_
              refine lv_icmp_eq (tgt := 39) hx hb dX6_advance_22 (by decide) (fun c_2143 => ?_) (fun c_2143 => ?_)
              · have tc_2144 : (x_2142).toInt = 32 := congrArg Int32.toInt c_2143
                have h_2145 : rg x_2142 32 32 := rg_and (rg_full _) (rg_of_eq c_2143 (rg_k (32 : Int32) 32 rfl)) (by decide)
                have uh_2145 := h_2145.1
                have vh_2145 := h_2145.2
                refine lv_aload_n hx hb dX6_advance_39 rfl (lv_at hl 0 rfl) ?_
                refine lv_dup hx hb dX6_advance_40 rfl ?_
                refine pg_f (v := .int (I_1799 197 this)) (C := RX6) (T := TX6) (N := 6) hx hb hts (tw_i inlX6) hown hK hP hL_this hK_this (by decide) rfl 5 (by decide) (hts _ (tw_c tw_662)) rfl dX6_advance_41 ?_
                refine lv_iconst (v := 1) hx hb dX6_advance_44 (by decide) ?_
                refine lv_iadd hx hb dX6_advance_45 ?_
                refine lv_topi (fun x_2146 ex_2146 => ?_)
                have h_2147 : rg x_2146 1 300 := rg_of_eq ex_2146 (rg_add h_2141 (rg_k (1 : Int32) 1 rfl) (by decide))
                have uh_2147 := h_2147.1
                have vh_2147 := h_2147.2
                have tx_2146 : (x_2146).toInt = (I_1799 197 this).toInt + 1 := by rw [ex_2146]; exact i_add_rg (a2 := (I_1799 197 this).toInt) (b2 := 1) rfl rfl h_2141 (rg_k (1 : Int32) 1 rfl) (by decide)
                refine pp_i (v := x_2146) (ty := .int) (C := RX6) (T := TX6) (N := 6) hx hb hts (tw_i inlX6) tyX6 tyX6_ok nmX6 hown hK hP hD hS hL_this hK_this (by decide) rfl 5 197 (by decide) (hts _ (tw_c tw_662)) rfl (tyX6_ok 5 (by decide)) rfl rfl (Nat.le_of_ble_eq_true rfl) (ps_197 _ _ _ _ _) dX6_advance_46 (fun I_2148 H locs eI_2148 hP hD hS => ?_)
                have hG := GX.wI hG 197 rfl eI_2148 (rg_w h_2147 (by decide)) (by decide)
                have tt_2149 : (I_2148 197 this).toInt = (x_2146).toInt := by rw [eI_2148, pq_us]
                have tt_2150 : (I_2148 193 this).toInt = (I_1799 193 this).toInt := by rw [eI_2148, pq_uf _ _ _ (by decide)]
                have tt_2151 : (I_2148 194 this).toInt = (I_1799 194 this).toInt := by rw [eI_2148, pq_uf _ _ _ (by decide)]
                refine lv_goto (tgt := 0) hx hb dX6_advance_49 (by decide) ?_
                exact ih_1923 I_2148 _ _ _ (by omega) (ms_fu_iadd hm_1920 (by rw [eI_2148]; exact pq_us _ _ _ _) ex_2146 rfl (kk := 1) rfl (by decide) h_2141 (by decide) (by decide)) hG hP hD hS (lv_sub hl [0] rfl)
              · have tc_2152 : (x_2142).toInt ≠ 32 := fun q => c_2143 (Int32.toInt_inj.mp q)
                refine lv_aload_n hx hb dX6_advance_25 rfl (lv_at hl 0 rfl) ?_
                refine pg_f (v := .ref w_1426) (C := RX6) (T := TX6) (N := 6) hx hb hts (tw_i inlX6) hown hK hP hL_this hK_this (by decide) rfl 0 (by decide) (hts _ (tw_c tw_165)) (pq_hv rfl hR_w_1426) dX6_advance_26 ?_
                refine lv_aload_n hx hb dX6_advance_29 rfl (lv_at hl 0 rfl) ?_
                refine pg_f (v := .int (I_1799 197 this)) (C := RX6) (T := TX6) (N := 6) hx hb hts (tw_i inlX6) hown hK hP hL_this hK_this (by decide) rfl 5 (by decide) (hts _ (tw_c tw_662)) rfl dX6_advance_30 ?_
                refine pl_i hx hb hK hP hL_w_1426 hK_w_1426 hN_w_1426 (rg_in h_2141 (by decide)) dX6_advance_33 ?_
                refine lv_tov x_2142 ex_2142.symm ?_
                refine lv_bipush (v := 10) hx hb dX6_advance_34 (by decide) ?_
                refine lv_icmp_ne (tgt := 52) hx hb dX6_advance_36 (by decide) (fun c_2153 => ?_) (fun c_2153 => ?_)
                · have tc_2154 : (x_2142).toInt ≠ 10 := fun q => c_2153 (Int32.toInt_inj.mp q)
                  exact K_2045 _ _ _ hG hP hD hS (lv_sub hl [0] rfl)
                · have tc_2155 : (x_2142).toInt = 10 := congrArg Int32.toInt c_2153
                  have h_2156 : rg x_2142 10 10 := rg_and (rg_full _) (rg_of_eq c_2153 (rg_k (10 : Int32) 10 rfl)) (by decide)
                  have uh_2156 := h_2156.1
                  have vh_2156 := h_2156.2
                  refine lv_aload_n hx hb dX6_advance_39 rfl (lv_at hl 0 rfl) ?_
                  refine lv_dup hx hb dX6_advance_40 rfl ?_
                  refine pg_f (v := .int (I_1799 197 this)) (C := RX6) (T := TX6) (N := 6) hx hb hts (tw_i inlX6) hown hK hP hL_this hK_this (by decide) rfl 5 (by decide) (hts _ (tw_c tw_662)) rfl dX6_advance_41 ?_
                  refine lv_iconst (v := 1) hx hb dX6_advance_44 (by decide) ?_
                  refine lv_iadd hx hb dX6_advance_45 ?_
                  refine lv_topi (fun x_2157 ex_2157 => ?_)
                  have h_2158 : rg x_2157 1 300 := rg_of_eq ex_2157 (rg_add h_2141 (rg_k (1 : Int32) 1 rfl) (by decide))
                  have uh_2158 := h_2158.1
                  have vh_2158 := h_2158.2
                  have tx_2157 : (x_2157).toInt = (I_1799 197 this).toInt + 1 := by rw [ex_2157]; exact i_add_rg (a2 := (I_1799 197 this).toInt) (b2 := 1) rfl rfl h_2141 (rg_k (1 : Int32) 1 rfl) (by decide)
                  refine pp_i (v := x_2157) (ty := .int) (C := RX6) (T := TX6) (N := 6) hx hb hts (tw_i inlX6) tyX6 tyX6_ok nmX6 hown hK hP hD hS hL_this hK_this (by decide) rfl 5 197 (by decide) (hts _ (tw_c tw_662)) rfl (tyX6_ok 5 (by decide)) rfl rfl (Nat.le_of_ble_eq_true rfl) (ps_197 _ _ _ _ _) dX6_advance_46 (fun I_2159 H locs eI_2159 hP hD hS => ?_)
                  have hG := GX.wI hG 197 rfl eI_2159 (rg_w h_2158 (by decide)) (by decide)
                  have tt_2160 : (I_2159 197 this).toInt = (x_2157).toInt := by rw [eI_2159, pq_us]
                  have tt_2161 : (I_2159 193 this).toInt = (I_1799 193 this).toInt := by rw [eI_2159, pq_uf _ _ _ (by decide)]
                  have tt_2162 : (I_2159 194 this).toInt = (I_1799 194 this).toInt := by rw [eI_2159, pq_uf _ _ _ (by decide)]
                  refine lv_goto (tgt := 0) hx hb dX6_advance_49 (by decide) ?_
                  exact ih_1923 I_2159 _ _ _ (by omega) (ms_fu_iadd hm_1920 (by rw [eI_2159]; exact pq_us _ _ _ _) ex_2157 rfl (kk := 1) rfl (by decide) h_2141 (by decide) (by decide)) hG hP hD hS (lv_sub hl [0] rfl)
        exact L_1922 _ I_1433 _ _ _ (by omega) (Nat.lt_succ_self _) hG hP hD hS (lv_sub hl [0] rfl)
      · have tc_2163 : (x_1427).toInt ≠ 32 := fun q => c_1428 (Int32.toInt_inj.mp q)
        refine lv_aload_n hx hb dX6_advance_25 rfl (lv_at hl 0 rfl) ?_
        refine pg_f (v := .ref w_1426) (C := RX6) (T := TX6) (N := 6) hx hb hts (tw_i inlX6) hown hK hP hL_this hK_this (by decide) rfl 0 (by decide) (hts _ (tw_c tw_165)) (pq_hv rfl hR_w_1426) dX6_advance_26 ?_
        refine lv_aload_n hx hb dX6_advance_29 rfl (lv_at hl 0 rfl) ?_
        refine pg_f (v := .int (I 197 this)) (C := RX6) (T := TX6) (N := 6) hx hb hts (tw_i inlX6) hown hK hP hL_this hK_this (by decide) rfl 5 (by decide) (hts _ (tw_c tw_662)) rfl dX6_advance_30 ?_
        refine pl_i hx hb hK hP hL_w_1426 hK_w_1426 hN_w_1426 (rg_in h_1424 (by decide)) dX6_advance_33 ?_
        refine lv_tov x_1427 ex_1427.symm ?_
        refine lv_bipush (v := 10) hx hb dX6_advance_34 (by decide) ?_
        refine lv_icmp_ne (tgt := 52) hx hb dX6_advance_36 (by decide) (fun c_2164 => ?_) (fun c_2164 => ?_)
        · have tc_2165 : (x_1427).toInt ≠ 10 := fun q => c_2164 (Int32.toInt_inj.mp q)
          exact K_1330 _ _ _ hG hP hD hS (lv_sub hl [0] rfl)
        · have tc_2166 : (x_1427).toInt = 10 := congrArg Int32.toInt c_2164
          have h_2167 : rg x_1427 10 10 := rg_and (rg_full _) (rg_of_eq c_2164 (rg_k (10 : Int32) 10 rfl)) (by decide)
          have uh_2167 := h_2167.1
          have vh_2167 := h_2167.2
          refine lv_aload_n hx hb dX6_advance_39 rfl (lv_at hl 0 rfl) ?_
          refine lv_dup hx hb dX6_advance_40 rfl ?_
          refine pg_f (v := .int (I 197 this)) (C := RX6) (T := TX6) (N := 6) hx hb hts (tw_i inlX6) hown hK hP hL_this hK_this (by decide) rfl 5 (by decide) (hts _ (tw_c tw_662)) rfl dX6_advance_41 ?_
          refine lv_iconst (v := 1) hx hb dX6_advance_44 (by decide) ?_
          refine lv_iadd hx hb dX6_advance_45 ?_
          refine lv_topi (fun x_2168 ex_2168 => ?_)
          have h_2169 : rg x_2168 1 300 := rg_of_eq ex_2168 (rg_add h_1424 (rg_k (1 : Int32) 1 rfl) (by decide))
          have uh_2169 := h_2169.1
          have vh_2169 := h_2169.2
          have tx_2168 : (x_2168).toInt = (I 197 this).toInt + 1 := by rw [ex_2168]; exact i_add_rg (a2 := (I 197 this).toInt) (b2 := 1) rfl rfl h_1424 (rg_k (1 : Int32) 1 rfl) (by decide)
          refine pp_i (v := x_2168) (ty := .int) (C := RX6) (T := TX6) (N := 6) hx hb hts (tw_i inlX6) tyX6 tyX6_ok nmX6 hown hK hP hD hS hL_this hK_this (by decide) rfl 5 197 (by decide) (hts _ (tw_c tw_662)) rfl (tyX6_ok 5 (by decide)) rfl rfl (Nat.le_of_ble_eq_true rfl) (ps_197 _ _ _ _ _) dX6_advance_46 (fun I_2170 H locs eI_2170 hP hD hS => ?_)
          have hG := GX.wI hG 197 rfl eI_2170 (rg_w h_2169 (by decide)) (by decide)
          have tt_2171 : (I_2170 197 this).toInt = (x_2168).toInt := by rw [eI_2170, pq_us]
          have tt_2172 : (I_2170 193 this).toInt = (I 193 this).toInt := by rw [eI_2170, pq_uf _ _ _ (by decide)]
          have tt_2173 : (I_2170 194 this).toInt = (I 194 this).toInt := by rw [eI_2170, pq_uf _ _ _ (by decide)]
          refine lv_goto (tgt := 0) hx hb dX6_advance_49 (by decide) ?_
          have L_2659 : ∀ (n_2658 : Nat) (I_2536 : Nat → Nat → Int32) (H : Heap) (locs : List Loc) (ls : Array Slot), ((I 197 this).toInt ≤ (I_2536 197 this).toInt ∧ (I_2536 193 this).toInt = (I 193 this).toInt) → (300 - (I_2536 197 this).toInt).toNat < n_2658 → GX [197, 194] tg σ I ri rj I_2536 ri rj rq → va_P D vwCl (pq_P t σ (I_2536, J, ri, rj, rq)) H → va_D A (pq_P t σ (I_2536, J, ri, rj, rq)) → va_S A s.heap H locs → lv_has ls 1 [(0, .ref this)] → W p l e ({ frames := 5, cells := 0, slots := 0, locals := 109 } : Room) s m (List.toArray ([.ref this] : List Value)) below meth c H locs 0 0 Q (F0 m 0 ls []) := by
            intro n_2658
            induction n_2658 with
            | zero => intro I_2536 H locs ls hrel_2662 hm_2657 hG hP hD hS hl; exact absurd hm_2657 (Nat.not_lt_zero _)
            | succ n_2658 ih_2660 =>
              intro I_2536 H locs ls hrel_2662 hm_2657 hG hP hD hS hl
              refine lv_aload_n hx hb dX6_advance_0 rfl (lv_at hl 0 rfl) ?_
              refine pg_f (v := .int (I_2536 197 this)) (C := RX6) (T := TX6) (N := 6) hx hb hts (tw_i inlX6) hown hK hP hL_this hK_this (by decide) rfl 5 (by decide) (hts _ (tw_c tw_662)) rfl dX6_advance_1 ?_
              have h_2663 : rg (I_2536 197 this) 0 300 := GX.rI hG 197 rfl
              have uh_2663 := h_2663.1
              have vh_2663 := h_2663.2
              refine lv_aload_n hx hb dX6_advance_4 rfl (lv_at hl 0 rfl) ?_
              refine pg_f (v := .int (I_2536 193 this)) (C := RX6) (T := TX6) (N := 6) hx hb hts (tw_i inlX6) hown hK hP hL_this hK_this (by decide) rfl 1 (by decide) (hts _ (tw_c tw_626)) rfl dX6_advance_5 ?_
              have h_2664 : rg (I_2536 193 this) 1 300 := (by rw [hG.2.1 193 (by decide) (by decide)]; exact h_1425)
              have uh_2664 := h_2664.1
              have vh_2664 := h_2664.2
              have K_2782 : ∀  (H : Heap) (locs : List Loc) (ls : Array Slot), GX [197, 194] tg σ I ri rj I_2536 ri rj rq → va_P D vwCl (pq_P t σ (I_2536, J, ri, rj, rq)) H → va_D A (pq_P t σ (I_2536, J, ri, rj, rq)) → va_S A s.heap H locs → lv_has ls 1 [(0, .ref this)] → W p l e ({ frames := 5, cells := 0, slots := 0, locals := 109 } : Room) s m (List.toArray ([.ref this] : List Value)) below meth c H locs 0 0 Q (F0 m 52 ls []) := by
                intro H locs ls hG hP hD hS hl
                refine lv_aload_n hx hb dX6_advance_52 rfl (lv_at hl 0 rfl) ?_
                refine lv_aload_n hx hb dX6_advance_53 rfl (lv_at hl 0 rfl) ?_
                refine pg_f (v := .int (I_2536 197 this)) (C := RX6) (T := TX6) (N := 6) hx hb hts (tw_i inlX6) hown hK hP hL_this hK_this (by decide) rfl 5 (by decide) (hts _ (tw_c tw_662)) rfl dX6_advance_54 ?_
                refine pp_i (v := (I_2536 197 this)) (ty := .int) (C := RX6) (T := TX6) (N := 6) hx hb hts (tw_i inlX6) tyX6 tyX6_ok nmX6 hown hK hP hD hS hL_this hK_this (by decide) rfl 3 195 (by decide) (hts _ (tw_c tw_667)) rfl (tyX6_ok 3 (by decide)) rfl rfl (Nat.le_of_ble_eq_true rfl) (ps_195 _ _ _ _ _) dX6_advance_57 (fun I_2783 H locs eI_2783 hP hD hS => ?_)
                have hG := GX.wI hG 195 rfl eI_2783 (rg_w h_2663 (by decide)) (by decide)
                have tt_2784 : (I_2783 197 this).toInt = (I_2536 197 this).toInt := by rw [eI_2783, pq_uf _ _ _ (by decide)]
                have tt_2785 : (I_2783 193 this).toInt = (I_2536 193 this).toInt := by rw [eI_2783, pq_uf _ _ _ (by decide)]
                have tt_2786 : (I_2783 194 this).toInt = (I_2536 194 this).toInt := by rw [eI_2783, pq_uf _ _ _ (by decide)]
                refine lv_aload_n hx hb dX6_advance_60 rfl (lv_at hl 0 rfl) ?_
                refine pg_f (v := .int (I_2783 197 this)) (C := RX6) (T := TX6) (N := 6) hx hb hts (tw_i inlX6) hown hK hP hL_this hK_this (by decide) rfl 5 (by decide) (hts _ (tw_c tw_662)) rfl dX6_advance_61 ?_
                have h_2787 : rg (I_2783 197 this) 0 300 := GX.rI hG 197 rfl
                have uh_2787 := h_2787.1
                have vh_2787 := h_2787.2
                refine lv_aload_n hx hb dX6_advance_64 rfl (lv_at hl 0 rfl) ?_
                refine pg_f (v := .int (I_2783 193 this)) (C := RX6) (T := TX6) (N := 6) hx hb hts (tw_i inlX6) hown hK hP hL_this hK_this (by decide) rfl 1 (by decide) (hts _ (tw_c tw_626)) rfl dX6_advance_65 ?_
                have h_2788 : rg (I_2783 193 this) 1 300 := (by rw [hG.2.1 193 (by decide) (by decide)]; exact h_1425)
                have uh_2788 := h_2788.1
                have vh_2788 := h_2788.2
                refine lv_icmp_lt (tgt := 80) hx hb dX6_advance_68 (by decide) (fun c_2789 => ?_) (fun c_2789 => ?_)
                · have tc_2790 : (I_2783 197 this).toInt < (I_2783 193 this).toInt := Int32.lt_iff_toInt_lt.mp c_2789
                  have h_2791 : rg (I_2783 197 this) 0 299 := rg_lt1 c_2789 h_2787 h_2788 (by decide)
                  have uh_2791 := h_2791.1
                  have vh_2791 := h_2791.2
                  refine lv_aload_n hx hb dX6_advance_80 rfl (lv_at hl 0 rfl) ?_
                  refine pg_f (v := .ref w_1426) (C := RX6) (T := TX6) (N := 6) hx hb hts (tw_i inlX6) hown hK hP hL_this hK_this (by decide) rfl 0 (by decide) (hts _ (tw_c tw_165)) (pq_hv rfl hR_w_1426) dX6_advance_81 ?_
                  refine lv_aload_n hx hb dX6_advance_84 rfl (lv_at hl 0 rfl) ?_
                  refine pg_f (v := .int (I_2783 197 this)) (C := RX6) (T := TX6) (N := 6) hx hb hts (tw_i inlX6) hown hK hP hL_this hK_this (by decide) rfl 5 (by decide) (hts _ (tw_c tw_662)) rfl dX6_advance_85 ?_
                  refine pl_i hx hb hK hP hL_w_1426 hK_w_1426 hN_w_1426 (rg_in h_2791 (by decide)) dX6_advance_88 ?_
                  refine lv_topi (fun x_2792 ex_2792 => ?_)
                  have ex_2792 : x_2792 = ri w_1426 ((I_2783 197 this)).toNatClampNeg := ex_2792
                  refine pk_i (va_runS (As := [.int x_2792]) (rest := []) ⟨hx, hb, hml, hown, hts⟩ (s_X6_isDigit_x l D t σ I_2783 J ri rj rq H.size tg hSH hG.1 x_2792) (va_cwS 1 hts (tw_S tw_669 tw_670 tw_153 tw_671) rfl rfl rfl cd_yX6_isDigit_1 ⟨Nat.le_of_ble_eq_true rfl, Nat.le_of_ble_eq_true rfl⟩) ⟨pq_blind, pq_pre hK hN hP hD⟩ rfl rfl hl.1 rfl (lv_room (Nat.le_of_ble_eq_true rfl)) dX6_advance_89 ⟨Nat.le_of_ble_eq_true rfl, Nat.le_of_ble_eq_true rfl⟩) hD hS hA (fun x_2793 σ1 μ1 H locs hw_2794 hP hD hS => ?_)
                  obtain ⟨hu_2795, hr_2797⟩ := hw_2794
                  obtain ⟨hu_2795a, hu_2795b⟩ := Prod.mk.inj hu_2795
                  rw [hu_2795a, hu_2795b] at hP hD
                  have h_2798 : rg x_2793 0 1 := by rcases hr_2797 with ⟨q, -⟩ | ⟨q, -⟩ <;> rw [q] <;> exact ⟨by decide, by decide⟩
                  have uh_2798 := h_2798.1
                  have vh_2798 := h_2798.2
                  refine lv_if_eq (tgt := 102) hx hb dX6_advance_92 (by decide) (fun c_2799 => ?_) (fun c_2799 => ?_)
                  · have f_2800 := (hr_2797.resolve_left (fun q => absurd (q.1.symm.trans c_2799) (by decide))).2
                    have tc_2801 : (x_2793).toInt = 0 := congrArg Int32.toInt c_2799
                    have h_2802 : rg x_2793 0 0 := rg_and h_2798 (rg_of_eq c_2799 (rg_k (0 : Int32) 0 rfl)) (by decide)
                    have uh_2802 := h_2802.1
                    have vh_2802 := h_2802.2
                    refine lv_aload_n hx hb dX6_advance_102 rfl (lv_at hl 0 rfl) ?_
                    refine pg_f (v := .ref w_1426) (C := RX6) (T := TX6) (N := 6) hx hb hts (tw_i inlX6) hown hK hP hL_this hK_this (by decide) rfl 0 (by decide) (hts _ (tw_c tw_165)) (pq_hv rfl hR_w_1426) dX6_advance_103 ?_
                    refine lv_aload_n hx hb dX6_advance_106 rfl (lv_at hl 0 rfl) ?_
                    refine pg_f (v := .int (I_2783 197 this)) (C := RX6) (T := TX6) (N := 6) hx hb hts (tw_i inlX6) hown hK hP hL_this hK_this (by decide) rfl 5 (by decide) (hts _ (tw_c tw_662)) rfl dX6_advance_107 ?_
                    refine pl_i hx hb hK hP hL_w_1426 hK_w_1426 hN_w_1426 (rg_in h_2791 (by decide)) dX6_advance_110 ?_
                    refine lv_tov x_2792 ex_2792.symm ?_
                    refine pk_i (va_runS (As := [.int x_2792]) (rest := []) ⟨hx, hb, hml, hown, hts⟩ (s_X6_isLetter_x l D t σ I_2783 J ri rj rq H.size tg hSH hG.1 x_2792) (va_cwS 1 hts (tw_S tw_678 tw_679 tw_153 tw_680) rfl rfl rfl cd_yX6_isLetter_1 ⟨Nat.le_of_ble_eq_true rfl, Nat.le_of_ble_eq_true rfl⟩) ⟨pq_blind, pq_pre hK hN hP hD⟩ rfl rfl hl.1 rfl (lv_room (Nat.le_of_ble_eq_true rfl)) dX6_advance_111 ⟨Nat.le_of_ble_eq_true rfl, Nat.le_of_ble_eq_true rfl⟩) hD hS hA (fun x_2803 σ1 μ1 H locs hw_2804 hP hD hS => ?_)
                    obtain ⟨hu_2805, hr_2807⟩ := hw_2804
                    obtain ⟨hu_2805a, hu_2805b⟩ := Prod.mk.inj hu_2805
                    rw [hu_2805a, hu_2805b] at hP hD
                    have h_2808 : rg x_2803 0 1 := by rcases hr_2807 with ⟨q, -⟩ | ⟨q, -⟩ <;> rw [q] <;> exact ⟨by decide, by decide⟩
                    have uh_2808 := h_2808.1
                    have vh_2808 := h_2808.2
                    refine lv_if_eq (tgt := 124) hx hb dX6_advance_114 (by decide) (fun c_2809 => ?_) (fun c_2809 => ?_)
                    · have f_2810 := (hr_2807.resolve_left (fun q => absurd (q.1.symm.trans c_2809) (by decide))).2
                      have tc_2811 : (x_2803).toInt = 0 := congrArg Int32.toInt c_2809
                      have h_2812 : rg x_2803 0 0 := rg_and h_2808 (rg_of_eq c_2809 (rg_k (0 : Int32) 0 rfl)) (by decide)
                      have uh_2812 := h_2812.1
                      have vh_2812 := h_2812.2
                      refine lv_aload_n hx hb dX6_advance_124 rfl (lv_at hl 0 rfl) ?_
                      refine lv_aload_n hx hb dX6_advance_125 rfl (lv_at hl 0 rfl) ?_
                      refine pg_f (v := .ref w_1426) (C := RX6) (T := TX6) (N := 6) hx hb hts (tw_i inlX6) hown hK hP hL_this hK_this (by decide) rfl 0 (by decide) (hts _ (tw_c tw_165)) (pq_hv rfl hR_w_1426) dX6_advance_126 ?_
                      refine lv_aload_n hx hb dX6_advance_129 rfl (lv_at hl 0 rfl) ?_
                      refine pg_f (v := .int (I_2783 197 this)) (C := RX6) (T := TX6) (N := 6) hx hb hts (tw_i inlX6) hown hK hP hL_this hK_this (by decide) rfl 5 (by decide) (hts _ (tw_c tw_662)) rfl dX6_advance_130 ?_
                      refine pl_i hx hb hK hP hL_w_1426 hK_w_1426 hN_w_1426 (rg_in h_2791 (by decide)) dX6_advance_133 ?_
                      refine lv_tov x_2792 ex_2792.symm ?_
                      refine pk_i (va_runS (As := [.int x_2792]) (rest := [.ref this]) ⟨hx, hb, hml, hown, hts⟩ (s_X6_signOf l D t σ I_2783 J ri rj rq H.size tg hSH hG.1 x_2792) (va_cwS 1 hts (tw_S tw_734 tw_735 tw_153 tw_736) rfl rfl rfl cd_yX6_signOf_1 ⟨Nat.le_of_ble_eq_true rfl, Nat.le_of_ble_eq_true rfl⟩) ⟨pq_blind, pq_pre hK hN hP hD⟩ rfl rfl hl.1 rfl (lv_room (Nat.le_of_ble_eq_true rfl)) dX6_advance_134 ⟨Nat.le_of_ble_eq_true rfl, Nat.le_of_ble_eq_true rfl⟩) hD hS hA (fun x_2813 σ1 μ1 H locs hw_2814 hP hD hS => ?_)
                      obtain ⟨hu_2815, hr_2817⟩ := hw_2814
                      obtain ⟨hu_2815a, hu_2815b⟩ := Prod.mk.inj hu_2815
                      rw [hu_2815a, hu_2815b] at hP hD
                      refine pp_i (v := x_2813) (ty := .int) (C := RX6) (T := TX6) (N := 6) hx hb hts (tw_i inlX6) tyX6 tyX6_ok nmX6 hown hK hP hD hS hL_this hK_this (by decide) rfl 2 194 (by decide) (hts _ (tw_c tw_668)) rfl (tyX6_ok 2 (by decide)) rfl rfl (Nat.le_of_ble_eq_true rfl) (ps_194 _ _ _ _ _) dX6_advance_137 (fun I_2818 H locs eI_2818 hP hD hS => ?_)
                      have hG := GX.wI hG 194 rfl eI_2818 (rg_w hr_2817 (by decide)) (by decide)
                      have tt_2819 : (I_2818 197 this).toInt = (I_2783 197 this).toInt := by rw [eI_2818, pq_uf _ _ _ (by decide)]
                      have tt_2820 : (I_2818 193 this).toInt = (I_2783 193 this).toInt := by rw [eI_2818, pq_uf _ _ _ (by decide)]
                      have tt_2821 : (I_2818 194 this).toInt = (x_2813).toInt := by rw [eI_2818, pq_us]
                      refine lv_aload_n hx hb dX6_advance_140 rfl (lv_at hl 0 rfl) ?_
                      refine lv_dup hx hb dX6_advance_141 rfl ?_
                      refine pg_f (v := .int (I_2818 197 this)) (C := RX6) (T := TX6) (N := 6) hx hb hts (tw_i inlX6) hown hK hP hL_this hK_this (by decide) rfl 5 (by decide) (hts _ (tw_c tw_662)) rfl dX6_advance_142 ?_
                      have h_2822 : rg (I_2818 197 this) 0 299 := (by rw [eI_2818, pq_uf _ _ _ (by decide)]; exact h_2791)
                      have uh_2822 := h_2822.1
                      have vh_2822 := h_2822.2
                      refine lv_iconst (v := 1) hx hb dX6_advance_145 (by decide) ?_
                      refine lv_iadd hx hb dX6_advance_146 ?_
                      refine lv_topi (fun x_2823 ex_2823 => ?_)
                      have h_2824 : rg x_2823 1 300 := rg_of_eq ex_2823 (rg_add h_2822 (rg_k (1 : Int32) 1 rfl) (by decide))
                      have uh_2824 := h_2824.1
                      have vh_2824 := h_2824.2
                      have tx_2823 : (x_2823).toInt = (I_2818 197 this).toInt + 1 := by rw [ex_2823]; exact i_add_rg (a2 := (I_2818 197 this).toInt) (b2 := 1) rfl rfl h_2822 (rg_k (1 : Int32) 1 rfl) (by decide)
                      refine pp_i (v := x_2823) (ty := .int) (C := RX6) (T := TX6) (N := 6) hx hb hts (tw_i inlX6) tyX6 tyX6_ok nmX6 hown hK hP hD hS hL_this hK_this (by decide) rfl 5 197 (by decide) (hts _ (tw_c tw_662)) rfl (tyX6_ok 5 (by decide)) rfl rfl (Nat.le_of_ble_eq_true rfl) (ps_197 _ _ _ _ _) dX6_advance_147 (fun I_2825 H locs eI_2825 hP hD hS => ?_)
                      have hG := GX.wI hG 197 rfl eI_2825 (rg_w h_2824 (by decide)) (by decide)
                      have tt_2826 : (I_2825 197 this).toInt = (x_2823).toInt := by rw [eI_2825, pq_us]
                      have tt_2827 : (I_2825 193 this).toInt = (I_2818 193 this).toInt := by rw [eI_2825, pq_uf _ _ _ (by decide)]
                      have tt_2828 : (I_2825 194 this).toInt = (I_2818 194 this).toInt := by rw [eI_2825, pq_uf _ _ _ (by decide)]
                      refine lv_aload_n hx hb dX6_advance_150 rfl (lv_at hl 0 rfl) ?_
                      refine pk_v (va_runV (As := []) (rest := []) ⟨hx, hb, hml, hown, hts⟩ (s_X6_takeLonger_x l D t σ I_2825 J ri rj rq H.size tg hSH hG.1 this hL_this hK_this) (cwV 0 hts (tw_V tw_737 tw_738 tw_739 tw_153 tw_740) rfl rfl rfl cv_yX6_takeLonger_0 ⟨Nat.le_of_ble_eq_true rfl, Nat.le_of_ble_eq_true rfl⟩) ⟨pq_blind, pq_recv hK hP hL_this hK_this (by decide) rfl, pq_pre hK hN hP hD⟩ rfl rfl hl.1 rfl (lv_room (Nat.le_of_ble_eq_true rfl)) dX6_advance_151 ⟨Nat.le_of_ble_eq_true rfl, Nat.le_of_ble_eq_true rfl⟩) hD hS hA (fun σ1 μ1 H locs hw_2830 hP hD hS => ?_)
                      obtain ⟨I_2831, hu_2832, hg_2833, hp_2835⟩ := hw_2830
                      obtain ⟨hu_2832a, hu_2832b⟩ := Prod.mk.inj hu_2832
                      rw [hu_2832a, hu_2832b] at hP hD
                      have tt_2836 := hp_2835
                      have hG := GX.tr hG hg_2833 (by decide)
                      have tt_2837 : (I_2831 193 this).toInt = (I_2825 193 this).toInt := by rw [hg_2833.2.1 193 (by decide) (by decide)]
                      subst hQ
                      exact W.vret hx hb hr (fun t1 ht hW => ⟨⟨(σ, I_2831, J, ri, rj, rq), rfl, ⟨I_2831, rfl, hG, (by omega), (by omega)⟩, by rw [ht]; exact hP, va_K.moved hW.alike hK, hD⟩, hS.F ht⟩) hS.2.2 dX6_advance_154
                    · obtain ⟨f_2838, f_2839⟩ := (hr_2807.resolve_right (fun q => c_2809 q.1)).2
                      have uf_2838 := f_2838.1
                      have vf_2838 := f_2838.2
                      have tc_2840 : (x_2803).toInt ≠ 0 := fun q => c_2809 (Int32.toInt_inj.mp q)
                      have h_2841 : rg x_2803 1 1 := rg_ne c_2809 h_2808 0 rfl (by decide)
                      have uh_2841 := h_2841.1
                      have vh_2841 := h_2841.2
                      refine lv_aload_n hx hb dX6_advance_117 rfl (lv_at hl 0 rfl) ?_
                      have tt_2842 := congrArg Int32.toInt ex_1427
                      have tt_2843 := congrArg Int32.toInt ex_2792
                      refine pk_v (va_runV (As := []) (rest := []) ⟨hx, hb, hml, hown, hts⟩ (s_X6_takeWord l D t σ I_2783 J ri rj rq H.size aK aV vF tg hSH hG.1 this hL_this hK_this w_1426 hR_w_1426 hL_w_1426 hK_w_1426 hN_w_1426 hT_w_1426 (by omega) (by omega)) (cwV 0 hts (tw_V tw_681 tw_682 tw_683 tw_153 tw_684) rfl rfl rfl cv_yX6_takeWord_0 ⟨Nat.le_of_ble_eq_true rfl, Nat.le_of_ble_eq_true rfl⟩) ⟨pq_blindS, pq_recv hK hP hL_this hK_this (by decide) rfl, pq_preS hK hN hP hD hS hA hW0⟩ rfl rfl hl.1 rfl (lv_room (Nat.le_of_ble_eq_true rfl)) dX6_advance_118 ⟨Nat.le_of_ble_eq_true rfl, Nat.le_of_ble_eq_true rfl⟩) hD hS hA (fun σ1 μ1 H locs hw_2845 hP hD hS => ?_)
                      obtain ⟨I_2846, hu_2847, hg_2848, hp_2850⟩ := hw_2845
                      obtain ⟨hu_2847a, hu_2847b⟩ := Prod.mk.inj hu_2847
                      rw [hu_2847a, hu_2847b] at hP hD
                      have tt_2851 := hp_2850
                      have hG := GX.tr hG hg_2848 (by decide)
                      have tt_2852 : (I_2846 193 this).toInt = (I_2783 193 this).toInt := by rw [hg_2848.2.1 193 (by decide) (by decide)]
                      refine lv_goto (tgt := 154) hx hb dX6_advance_121 (by decide) ?_
                      subst hQ
                      exact W.vret hx hb hr (fun t1 ht hW => ⟨⟨(σ, I_2846, J, ri, rj, rq), rfl, ⟨I_2846, rfl, hG, (by omega), (by omega)⟩, by rw [ht]; exact hP, va_K.moved hW.alike hK, hD⟩, hS.F ht⟩) hS.2.2 dX6_advance_154
                  · obtain ⟨f_2853, f_2854⟩ := (hr_2797.resolve_right (fun q => c_2799 q.1)).2
                    have uf_2853 := f_2853.1
                    have vf_2853 := f_2853.2
                    have tc_2855 : (x_2793).toInt ≠ 0 := fun q => c_2799 (Int32.toInt_inj.mp q)
                    have h_2856 : rg x_2793 1 1 := rg_ne c_2799 h_2798 0 rfl (by decide)
                    have uh_2856 := h_2856.1
                    have vh_2856 := h_2856.2
                    refine lv_aload_n hx hb dX6_advance_95 rfl (lv_at hl 0 rfl) ?_
                    have tt_2857 := congrArg Int32.toInt ex_1427
                    have tt_2858 := congrArg Int32.toInt ex_2792
                    refine pk_v (va_runV (As := []) (rest := []) ⟨hx, hb, hml, hown, hts⟩ (s_X6_takeNumber_x l D t σ I_2783 J ri rj rq H.size tg hSH hG.1 this hL_this hK_this w_1426 hR_w_1426 hL_w_1426 hK_w_1426 hN_w_1426 hT_w_1426 (by omega) (by omega)) (cwV 0 hts (tw_V tw_672 tw_673 tw_674 tw_153 tw_675) rfl rfl rfl cv_yX6_takeNumber_0 ⟨Nat.le_of_ble_eq_true rfl, Nat.le_of_ble_eq_true rfl⟩) ⟨pq_blind, pq_recv hK hP hL_this hK_this (by decide) rfl, pq_pre hK hN hP hD⟩ rfl rfl hl.1 rfl (lv_room (Nat.le_of_ble_eq_true rfl)) dX6_advance_96 ⟨Nat.le_of_ble_eq_true rfl, Nat.le_of_ble_eq_true rfl⟩) hD hS hA (fun σ1 μ1 H locs hw_2860 hP hD hS => ?_)
                    obtain ⟨I_2861, hu_2862, hg_2863, hp_2865⟩ := hw_2860
                    obtain ⟨hu_2862a, hu_2862b⟩ := Prod.mk.inj hu_2862
                    rw [hu_2862a, hu_2862b] at hP hD
                    have tt_2866 := hp_2865
                    have hG := GX.tr hG hg_2863 (by decide)
                    have tt_2867 : (I_2861 193 this).toInt = (I_2783 193 this).toInt := by rw [hg_2863.2.1 193 (by decide) (by decide)]
                    refine lv_goto (tgt := 154) hx hb dX6_advance_99 (by decide) ?_
                    subst hQ
                    exact W.vret hx hb hr (fun t1 ht hW => ⟨⟨(σ, I_2861, J, ri, rj, rq), rfl, ⟨I_2861, rfl, hG, (by omega), (by omega)⟩, by rw [ht]; exact hP, va_K.moved hW.alike hK, hD⟩, hS.F ht⟩) hS.2.2 dX6_advance_154
                · have tc_2868 : (I_2783 193 this).toInt ≤ (I_2783 197 this).toInt := Int32.le_iff_toInt_le.mp (nlt c_2789)
                  have h_2869 : rg (I_2783 197 this) 1 300 := rg_le2 (nlt c_2789) h_2788 h_2787 (by decide)
                  have uh_2869 := h_2869.1
                  have vh_2869 := h_2869.2
                  refine lv_aload_n hx hb dX6_advance_71 rfl (lv_at hl 0 rfl) ?_
                  refine lv_bipush (v := 33) hx hb dX6_advance_72 (by decide) ?_
                  refine pp_i (v := 33) (ty := .int) (C := RX6) (T := TX6) (N := 6) hx hb hts (tw_i inlX6) tyX6 tyX6_ok nmX6 hown hK hP hD hS hL_this hK_this (by decide) rfl 2 194 (by decide) (hts _ (tw_c tw_668)) rfl (tyX6_ok 2 (by decide)) rfl rfl (Nat.le_of_ble_eq_true rfl) (ps_194 _ _ _ _ _) dX6_advance_74 (fun I_2870 H locs eI_2870 hP hD hS => ?_)
                  have hG := GX.wI hG 194 rfl eI_2870 (rg_w (rg_k (33 : Int32) 33 rfl) (by decide)) (by decide)
                  have tt_2871 : (I_2870 197 this).toInt = (I_2783 197 this).toInt := by rw [eI_2870, pq_uf _ _ _ (by decide)]
                  have tt_2872 : (I_2870 193 this).toInt = (I_2783 193 this).toInt := by rw [eI_2870, pq_uf _ _ _ (by decide)]
                  have tt_2873 : (I_2870 194 this).toInt = 33 := by rw [eI_2870, pq_us]; rfl
                  refine lv_goto (tgt := 154) hx hb dX6_advance_77 (by decide) ?_
                  subst hQ
                  exact W.vret hx hb hr (fun t1 ht hW => ⟨⟨(σ, I_2870, J, ri, rj, rq), rfl, ⟨I_2870, rfl, hG, (by omega), (by omega)⟩, by rw [ht]; exact hP, va_K.moved hW.alike hK, hD⟩, hS.F ht⟩) hS.2.2 dX6_advance_154
              refine lv_icmp_ge (tgt := 52) hx hb dX6_advance_8 (by decide) (fun c_2874 => ?_) (fun c_2874 => ?_)
              · have tc_2875 : (I_2536 193 this).toInt ≤ (I_2536 197 this).toInt := Int32.le_iff_toInt_le.mp c_2874
                have h_2876 : rg (I_2536 197 this) 1 300 := rg_le2 c_2874 h_2664 h_2663 (by decide)
                have uh_2876 := h_2876.1
                have vh_2876 := h_2876.2
                exact K_2782 _ _ _ hG hP hD hS (lv_sub hl [0] rfl)
              · have tc_2877 : (I_2536 197 this).toInt < (I_2536 193 this).toInt := Int32.lt_iff_toInt_lt.mp (nle c_2874)
                have h_2878 : rg (I_2536 197 this) 0 299 := rg_lt1 (nle c_2874) h_2663 h_2664 (by decide)
                have uh_2878 := h_2878.1
                have vh_2878 := h_2878.2
                refine lv_aload_n hx hb dX6_advance_11 rfl (lv_at hl 0 rfl) ?_
                refine pg_f (v := .ref w_1426) (C := RX6) (T := TX6) (N := 6) hx hb hts (tw_i inlX6) hown hK hP hL_this hK_this (by decide) rfl 0 (by decide) (hts _ (tw_c tw_165)) (pq_hv rfl hR_w_1426) dX6_advance_12 ?_
                refine lv_aload_n hx hb dX6_advance_15 rfl (lv_at hl 0 rfl) ?_
                refine pg_f (v := .int (I_2536 197 this)) (C := RX6) (T := TX6) (N := 6) hx hb hts (tw_i inlX6) hown hK hP hL_this hK_this (by decide) rfl 5 (by decide) (hts _ (tw_c tw_662)) rfl dX6_advance_16 ?_
                refine pl_i hx hb hK hP hL_w_1426 hK_w_1426 hN_w_1426 (rg_in h_2878 (by decide)) dX6_advance_19 ?_
                refine lv_topi (fun x_2879 ex_2879 => ?_)
                have ex_2879 : x_2879 = ri w_1426 ((I_2536 197 this)).toNatClampNeg := ex_2879
                refine lv_bipush (v := 32) hx hb dX6_advance_20 (by decide) ?_
                refine lv_icmp_eq (tgt := 39) hx hb dX6_advance_22 (by decide) (fun c_2880 => ?_) (fun c_2880 => ?_)
                · have tc_2881 : (x_2879).toInt = 32 := congrArg Int32.toInt c_2880
                  have h_2882 : rg x_2879 32 32 := rg_and (rg_full _) (rg_of_eq c_2880 (rg_k (32 : Int32) 32 rfl)) (by decide)
                  have uh_2882 := h_2882.1
                  have vh_2882 := h_2882.2
                  refine lv_aload_n hx hb dX6_advance_39 rfl (lv_at hl 0 rfl) ?_
                  refine lv_dup hx hb dX6_advance_40 rfl ?_
                  refine pg_f (v := .int (I_2536 197 this)) (C := RX6) (T := TX6) (N := 6) hx hb hts (tw_i inlX6) hown hK hP hL_this hK_this (by decide) rfl 5 (by decide) (hts _ (tw_c tw_662)) rfl dX6_advance_41 ?_
                  refine lv_iconst (v := 1) hx hb dX6_advance_44 (by decide) ?_
                  refine lv_iadd hx hb dX6_advance_45 ?_
                  refine lv_topi (fun x_2883 ex_2883 => ?_)
                  have h_2884 : rg x_2883 1 300 := rg_of_eq ex_2883 (rg_add h_2878 (rg_k (1 : Int32) 1 rfl) (by decide))
                  have uh_2884 := h_2884.1
                  have vh_2884 := h_2884.2
                  have tx_2883 : (x_2883).toInt = (I_2536 197 this).toInt + 1 := by rw [ex_2883]; exact i_add_rg (a2 := (I_2536 197 this).toInt) (b2 := 1) rfl rfl h_2878 (rg_k (1 : Int32) 1 rfl) (by decide)
                  refine pp_i (v := x_2883) (ty := .int) (C := RX6) (T := TX6) (N := 6) hx hb hts (tw_i inlX6) tyX6 tyX6_ok nmX6 hown hK hP hD hS hL_this hK_this (by decide) rfl 5 197 (by decide) (hts _ (tw_c tw_662)) rfl (tyX6_ok 5 (by decide)) rfl rfl (Nat.le_of_ble_eq_true rfl) (ps_197 _ _ _ _ _) dX6_advance_46 (fun I_2885 H locs eI_2885 hP hD hS => ?_)
                  have hG := GX.wI hG 197 rfl eI_2885 (rg_w h_2884 (by decide)) (by decide)
                  have tt_2886 : (I_2885 197 this).toInt = (x_2883).toInt := by rw [eI_2885, pq_us]
                  have tt_2887 : (I_2885 193 this).toInt = (I_2536 193 this).toInt := by rw [eI_2885, pq_uf _ _ _ (by decide)]
                  have tt_2888 : (I_2885 194 this).toInt = (I_2536 194 this).toInt := by rw [eI_2885, pq_uf _ _ _ (by decide)]
                  refine lv_goto (tgt := 0) hx hb dX6_advance_49 (by decide) ?_
                  exact ih_2660 I_2885 _ _ _ (by omega) (ms_fu_iadd hm_2657 (by rw [eI_2885]; exact pq_us _ _ _ _) ex_2883 rfl (kk := 1) rfl (by decide) h_2878 (by decide) (by decide)) hG hP hD hS (lv_sub hl [0] rfl)
                · have tc_2889 : (x_2879).toInt ≠ 32 := fun q => c_2880 (Int32.toInt_inj.mp q)
                  refine lv_aload_n hx hb dX6_advance_25 rfl (lv_at hl 0 rfl) ?_
                  refine pg_f (v := .ref w_1426) (C := RX6) (T := TX6) (N := 6) hx hb hts (tw_i inlX6) hown hK hP hL_this hK_this (by decide) rfl 0 (by decide) (hts _ (tw_c tw_165)) (pq_hv rfl hR_w_1426) dX6_advance_26 ?_
                  refine lv_aload_n hx hb dX6_advance_29 rfl (lv_at hl 0 rfl) ?_
                  refine pg_f (v := .int (I_2536 197 this)) (C := RX6) (T := TX6) (N := 6) hx hb hts (tw_i inlX6) hown hK hP hL_this hK_this (by decide) rfl 5 (by decide) (hts _ (tw_c tw_662)) rfl dX6_advance_30 ?_
                  refine pl_i hx hb hK hP hL_w_1426 hK_w_1426 hN_w_1426 (rg_in h_2878 (by decide)) dX6_advance_33 ?_
                  refine lv_tov x_2879 ex_2879.symm ?_
                  refine lv_bipush (v := 10) hx hb dX6_advance_34 (by decide) ?_
                  refine lv_icmp_ne (tgt := 52) hx hb dX6_advance_36 (by decide) (fun c_2890 => ?_) (fun c_2890 => ?_)
                  · have tc_2891 : (x_2879).toInt ≠ 10 := fun q => c_2890 (Int32.toInt_inj.mp q)
                    exact K_2782 _ _ _ hG hP hD hS (lv_sub hl [0] rfl)
                  · have tc_2892 : (x_2879).toInt = 10 := congrArg Int32.toInt c_2890
                    have h_2893 : rg x_2879 10 10 := rg_and (rg_full _) (rg_of_eq c_2890 (rg_k (10 : Int32) 10 rfl)) (by decide)
                    have uh_2893 := h_2893.1
                    have vh_2893 := h_2893.2
                    refine lv_aload_n hx hb dX6_advance_39 rfl (lv_at hl 0 rfl) ?_
                    refine lv_dup hx hb dX6_advance_40 rfl ?_
                    refine pg_f (v := .int (I_2536 197 this)) (C := RX6) (T := TX6) (N := 6) hx hb hts (tw_i inlX6) hown hK hP hL_this hK_this (by decide) rfl 5 (by decide) (hts _ (tw_c tw_662)) rfl dX6_advance_41 ?_
                    refine lv_iconst (v := 1) hx hb dX6_advance_44 (by decide) ?_
                    refine lv_iadd hx hb dX6_advance_45 ?_
                    refine lv_topi (fun x_2894 ex_2894 => ?_)
                    have h_2895 : rg x_2894 1 300 := rg_of_eq ex_2894 (rg_add h_2878 (rg_k (1 : Int32) 1 rfl) (by decide))
                    have uh_2895 := h_2895.1
                    have vh_2895 := h_2895.2
                    have tx_2894 : (x_2894).toInt = (I_2536 197 this).toInt + 1 := by rw [ex_2894]; exact i_add_rg (a2 := (I_2536 197 this).toInt) (b2 := 1) rfl rfl h_2878 (rg_k (1 : Int32) 1 rfl) (by decide)
                    refine pp_i (v := x_2894) (ty := .int) (C := RX6) (T := TX6) (N := 6) hx hb hts (tw_i inlX6) tyX6 tyX6_ok nmX6 hown hK hP hD hS hL_this hK_this (by decide) rfl 5 197 (by decide) (hts _ (tw_c tw_662)) rfl (tyX6_ok 5 (by decide)) rfl rfl (Nat.le_of_ble_eq_true rfl) (ps_197 _ _ _ _ _) dX6_advance_46 (fun I_2896 H locs eI_2896 hP hD hS => ?_)
                    have hG := GX.wI hG 197 rfl eI_2896 (rg_w h_2895 (by decide)) (by decide)
                    have tt_2897 : (I_2896 197 this).toInt = (x_2894).toInt := by rw [eI_2896, pq_us]
                    have tt_2898 : (I_2896 193 this).toInt = (I_2536 193 this).toInt := by rw [eI_2896, pq_uf _ _ _ (by decide)]
                    have tt_2899 : (I_2896 194 this).toInt = (I_2536 194 this).toInt := by rw [eI_2896, pq_uf _ _ _ (by decide)]
                    refine lv_goto (tgt := 0) hx hb dX6_advance_49 (by decide) ?_
                    exact ih_2660 I_2896 _ _ _ (by omega) (ms_fu_iadd hm_2657 (by rw [eI_2896]; exact pq_us _ _ _ _) ex_2894 rfl (kk := 1) rfl (by decide) h_2878 (by decide) (by decide)) hG hP hD hS (lv_sub hl [0] rfl)
          exact L_2659 _ I_2170 _ _ _ (by omega) (Nat.lt_succ_self _) hG hP hD hS (lv_sub hl [0] rfl)
  exact go _ _ _ hP hD hS hl
