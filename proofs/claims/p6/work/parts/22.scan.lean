theorem dX6_takeWord_0 : decode cX6_takeWord 0 = .ok (.aload_n 0, 1) := oc_42 (by decide +kernel)
theorem dX6_takeWord_1 : decode cX6_takeWord 1 = .ok (.getfield 19, 3) := oc_180 (a := 0) (b := 19) (by decide +kernel)
theorem dX6_takeWord_4 : decode cX6_takeWord 4 = .ok (.aload_n 0, 1) := oc_42 (by decide +kernel)
theorem dX6_takeWord_5 : decode cX6_takeWord 5 = .ok (.getfield 15, 3) := oc_180 (a := 0) (b := 15) (by decide +kernel)
theorem dX6_takeWord_39 : decode cX6_takeWord 39 = .ok (.aload_n 0, 1) := oc_42 (by decide +kernel)
theorem dX6_takeWord_40 : decode cX6_takeWord 40 = .ok (.bipush 34, 2) := oc_16 (a := 34) (by decide +kernel)
theorem dX6_takeWord_42 : decode cX6_takeWord 42 = .ok (.putfield 25, 3) := oc_181 (a := 0) (b := 25) (by decide +kernel)
theorem dX6_takeWord_45 : decode cX6_takeWord 45 = .ok (.iconst 0, 1) := oc_3 (by decide +kernel)
theorem dX6_takeWord_46 : decode cX6_takeWord 46 = .ok (.istore_n 1, 1) := oc_60 (by decide +kernel)
theorem dX6_takeWord_47 : decode cX6_takeWord 47 = .ok (.aload_n 0, 1) := oc_42 (by decide +kernel)
theorem tw_667 : Cond.fieldLink RX6 22 "RingsUnder$Scanner" "start" "I" ∈ wsL_law := sg_28 _ (List.mem_of_getElem? (i := 19) rfl)
theorem dX6_takeWord_48 : decode cX6_takeWord 48 = .ok (.getfield 22, 3) := oc_180 (a := 0) (b := 22) (by decide +kernel)
theorem dX6_takeWord_51 : decode cX6_takeWord 51 = .ok (.istore_n 2, 1) := oc_61 (by decide +kernel)
theorem dX6_takeWord_52 : decode cX6_takeWord 52 = .ok (.iconst 1, 1) := oc_4 (by decide +kernel)
theorem dX6_takeWord_53 : decode cX6_takeWord 53 = .ok (.istore_n 3, 1) := oc_62 (by decide +kernel)
theorem dX6_takeWord_54 : decode cX6_takeWord 54 = .ok (.iconst 0, 1) := oc_3 (by decide +kernel)
theorem dX6_takeWord_55 : decode cX6_takeWord 55 = .ok (.istore 4, 2) := oc_54 (by decide +kernel)
theorem dX6_takeWord_57 : decode cX6_takeWord 57 = .ok (.iload 4, 2) := oc_21 (by decide +kernel)
theorem dX6_takeWord_59 : decode cX6_takeWord 59 = .ok (.ldc 57, 2) := oc_18 (by decide +kernel)
theorem tw_685 : Cond.methodLink RX6 59 yJ0_length_8abf5 ∈ wsL_law := sg_29 _ (List.mem_of_getElem? (i := 13) rfl)
theorem tw_686 : Cond.instanceMethod yJ0_length_8abf5 ∈ wsL_law := sg_29 _ (List.mem_of_getElem? (i := 14) rfl)
theorem tw_687 : Cond.selects RJ0 yJ0_length_8abf5 yJ0_length_8abf5 ∈ wsL_law := sg_29 _ (List.mem_of_getElem? (i := 15) rfl)
theorem tw_689 : Cond.code yJ0_length_8abf5 cJ0_length_8abf5 1 (some .int) ∈ wsL_law := sg_29 _ (List.mem_of_getElem? (i := 17) rfl)
theorem dX6_takeWord_61 : decode cX6_takeWord 61 = .ok (.invokevirtual 59, 3) := oc_182 (a := 0) (b := 59) (by decide +kernel)
theorem dX6_takeWord_64 : decode cX6_takeWord 64 = .ok (.if_icmp .ge 100, 3) := oc_162 (a := 0) (b := 100) (by decide +kernel)
theorem dX6_takeWord_164 : decode cX6_takeWord 164 = .ok (.return_, 1) := oc_177 (by decide +kernel)
theorem dX6_takeWord_67 : decode cX6_takeWord 67 = .ok (.aload_n 0, 1) := oc_42 (by decide +kernel)
theorem dX6_takeWord_68 : decode cX6_takeWord 68 = .ok (.getfield 25, 3) := oc_180 (a := 0) (b := 25) (by decide +kernel)
theorem dX6_takeWord_71 : decode cX6_takeWord 71 = .ok (.bipush 34, 2) := oc_16 (a := 34) (by decide +kernel)
theorem dX6_takeWord_73 : decode cX6_takeWord 73 = .ok (.if_icmp .ne 91, 3) := oc_160 (a := 0) (b := 91) (by decide +kernel)
theorem dX6_takeWord_76 : decode cX6_takeWord 76 = .ok (.ldc 57, 2) := oc_18 (by decide +kernel)
theorem dX6_takeWord_78 : decode cX6_takeWord 78 = .ok (.iload 4, 2) := oc_21 (by decide +kernel)
theorem tw_697 : Cond.methodLink RX6 64 yJ0_charAt_5068e ∈ wsL_law := sg_30 _ (List.mem_of_getElem? (i := 1) rfl)
theorem tw_698 : Cond.instanceMethod yJ0_charAt_5068e ∈ wsL_law := sg_30 _ (List.mem_of_getElem? (i := 2) rfl)
theorem tw_699 : Cond.selects RJ0 yJ0_charAt_5068e yJ0_charAt_5068e ∈ wsL_law := sg_30 _ (List.mem_of_getElem? (i := 3) rfl)
theorem tw_700 : Cond.code yJ0_charAt_5068e cJ0_charAt_5068e 2 (some .char) ∈ wsL_law := sg_30 _ (List.mem_of_getElem? (i := 4) rfl)
theorem dX6_takeWord_80 : decode cX6_takeWord 80 = .ok (.invokevirtual 64, 3) := oc_182 (a := 0) (b := 64) (by decide +kernel)
theorem dX6_takeWord_83 : decode cX6_takeWord 83 = .ok (.bipush 32, 2) := oc_16 (a := 32) (by decide +kernel)
theorem dX6_takeWord_85 : decode cX6_takeWord 85 = .ok (.if_icmp .eq 43, 3) := oc_159 (a := 0) (b := 43) (by decide +kernel)
theorem dX6_takeWord_128 : decode cX6_takeWord 128 = .ok (.iload_n 3, 1) := oc_29 (by decide +kernel)
theorem dX6_takeWord_129 : decode cX6_takeWord 129 = .ok (.ifCond .eq 19, 3) := oc_153 (a := 0) (b := 19) (by decide +kernel)
theorem dX6_takeWord_148 : decode cX6_takeWord 148 = .ok (.iinc 1 1, 3) := oc_132 (b := 1) (by decide +kernel)
theorem dX6_takeWord_151 : decode cX6_takeWord 151 = .ok (.aload_n 0, 1) := oc_42 (by decide +kernel)
theorem dX6_takeWord_152 : decode cX6_takeWord 152 = .ok (.getfield 22, 3) := oc_180 (a := 0) (b := 22) (by decide +kernel)
theorem dX6_takeWord_155 : decode cX6_takeWord 155 = .ok (.istore_n 2, 1) := oc_61 (by decide +kernel)
theorem dX6_takeWord_156 : decode cX6_takeWord 156 = .ok (.iconst 1, 1) := oc_4 (by decide +kernel)
theorem dX6_takeWord_157 : decode cX6_takeWord 157 = .ok (.istore_n 3, 1) := oc_62 (by decide +kernel)
theorem dX6_takeWord_158 : decode cX6_takeWord 158 = .ok (.iinc 4 1, 3) := oc_132 (b := 1) (by decide +kernel)
theorem dX6_takeWord_161 : decode cX6_takeWord 161 = .ok (.goto (-104), 3) := oc_167 (a := 255) (b := 152) (by decide +kernel)
theorem dX6_takeWord_132 : decode cX6_takeWord 132 = .ok (.iload_n 2, 1) := oc_28 (by decide +kernel)
theorem dX6_takeWord_133 : decode cX6_takeWord 133 = .ok (.aload_n 0, 1) := oc_42 (by decide +kernel)
theorem dX6_takeWord_134 : decode cX6_takeWord 134 = .ok (.getfield 19, 3) := oc_180 (a := 0) (b := 19) (by decide +kernel)
theorem dX6_takeWord_137 : decode cX6_takeWord 137 = .ok (.if_icmp .ne 11, 3) := oc_160 (a := 0) (b := 11) (by decide +kernel)
theorem dX6_takeWord_140 : decode cX6_takeWord 140 = .ok (.aload_n 0, 1) := oc_42 (by decide +kernel)
theorem dX6_takeWord_141 : decode cX6_takeWord 141 = .ok (.iload_n 1, 1) := oc_27 (by decide +kernel)
theorem dX6_takeWord_142 : decode cX6_takeWord 142 = .ok (.putfield 25, 3) := oc_181 (a := 0) (b := 25) (by decide +kernel)
theorem dX6_takeWord_145 : decode cX6_takeWord 145 = .ok (.goto 13, 3) := oc_167 (a := 0) (b := 13) (by decide +kernel)
theorem dX6_takeWord_88 : decode cX6_takeWord 88 = .ok (.iload_n 3, 1) := oc_29 (by decide +kernel)
theorem dX6_takeWord_89 : decode cX6_takeWord 89 = .ok (.ifCond .eq 31, 3) := oc_153 (a := 0) (b := 31) (by decide +kernel)
theorem dX6_takeWord_120 : decode cX6_takeWord 120 = .ok (.iconst 0, 1) := oc_3 (by decide +kernel)
theorem dX6_takeWord_121 : decode cX6_takeWord 121 = .ok (.istore_n 3, 1) := oc_62 (by decide +kernel)
theorem dX6_takeWord_122 : decode cX6_takeWord 122 = .ok (.iinc 2 1, 3) := oc_132 (b := 1) (by decide +kernel)
theorem dX6_takeWord_125 : decode cX6_takeWord 125 = .ok (.goto 33, 3) := oc_167 (a := 0) (b := 33) (by decide +kernel)
theorem dX6_takeWord_92 : decode cX6_takeWord 92 = .ok (.iload_n 2, 1) := oc_28 (by decide +kernel)
theorem dX6_takeWord_93 : decode cX6_takeWord 93 = .ok (.aload_n 0, 1) := oc_42 (by decide +kernel)
theorem dX6_takeWord_94 : decode cX6_takeWord 94 = .ok (.getfield 19, 3) := oc_180 (a := 0) (b := 19) (by decide +kernel)
theorem dX6_takeWord_97 : decode cX6_takeWord 97 = .ok (.if_icmp .ge 23, 3) := oc_162 (a := 0) (b := 23) (by decide +kernel)
theorem dX6_takeWord_100 : decode cX6_takeWord 100 = .ok (.aload_n 0, 1) := oc_42 (by decide +kernel)
theorem dX6_takeWord_101 : decode cX6_takeWord 101 = .ok (.getfield 9, 3) := oc_180 (a := 0) (b := 9) (by decide +kernel)
theorem dX6_takeWord_104 : decode cX6_takeWord 104 = .ok (.iload_n 2, 1) := oc_28 (by decide +kernel)
theorem dX6_takeWord_105 : decode cX6_takeWord 105 = .ok (.iaload, 1) := oc_46 (by decide +kernel)
theorem dX6_takeWord_106 : decode cX6_takeWord 106 = .ok (.ldc 57, 2) := oc_18 (by decide +kernel)
theorem dX6_takeWord_108 : decode cX6_takeWord 108 = .ok (.iload 4, 2) := oc_21 (by decide +kernel)
theorem dX6_takeWord_110 : decode cX6_takeWord 110 = .ok (.invokevirtual 64, 3) := oc_182 (a := 0) (b := 64) (by decide +kernel)
theorem dX6_takeWord_113 : decode cX6_takeWord 113 = .ok (.if_icmp .ne 7, 3) := oc_160 (a := 0) (b := 7) (by decide +kernel)
theorem dX6_takeWord_116 : decode cX6_takeWord 116 = .ok (.iconst 1, 1) := oc_4 (by decide +kernel)
theorem dX6_takeWord_117 : decode cX6_takeWord 117 = .ok (.goto 4, 3) := oc_167 (a := 0) (b := 4) (by decide +kernel)
theorem dX6_takeWord_8 : decode cX6_takeWord 8 = .ok (.if_icmp .ge 31, 3) := oc_162 (a := 0) (b := 31) (by decide +kernel)
theorem dX6_takeWord_11 : decode cX6_takeWord 11 = .ok (.aload_n 0, 1) := oc_42 (by decide +kernel)
theorem dX6_takeWord_12 : decode cX6_takeWord 12 = .ok (.getfield 9, 3) := oc_180 (a := 0) (b := 9) (by decide +kernel)
theorem dX6_takeWord_15 : decode cX6_takeWord 15 = .ok (.aload_n 0, 1) := oc_42 (by decide +kernel)
theorem dX6_takeWord_16 : decode cX6_takeWord 16 = .ok (.getfield 19, 3) := oc_180 (a := 0) (b := 19) (by decide +kernel)
theorem dX6_takeWord_19 : decode cX6_takeWord 19 = .ok (.iaload, 1) := oc_46 (by decide +kernel)
theorem tw_678 : Cond.methodLink RX6 35 yX6_isLetter ∈ wsL_law := sg_29 _ (List.mem_of_getElem? (i := 6) rfl)
theorem tw_679 : Cond.static yX6_isLetter ∈ wsL_law := sg_29 _ (List.mem_of_getElem? (i := 7) rfl)
theorem tw_680 : Cond.code yX6_isLetter cX6_isLetter 1 (some .boolean) ∈ wsL_law := sg_29 _ (List.mem_of_getElem? (i := 8) rfl)
theorem dX6_takeWord_20 : decode cX6_takeWord 20 = .ok (.invokestatic 35, 3) := oc_184 (a := 0) (b := 35) (by decide +kernel)
theorem dX6_takeWord_23 : decode cX6_takeWord 23 = .ok (.ifCond .eq 16, 3) := oc_153 (a := 0) (b := 16) (by decide +kernel)
theorem dX6_takeWord_26 : decode cX6_takeWord 26 = .ok (.aload_n 0, 1) := oc_42 (by decide +kernel)
theorem dX6_takeWord_27 : decode cX6_takeWord 27 = .ok (.dup, 1) := oc_89 (by decide +kernel)
theorem dX6_takeWord_28 : decode cX6_takeWord 28 = .ok (.getfield 19, 3) := oc_180 (a := 0) (b := 19) (by decide +kernel)
theorem dX6_takeWord_31 : decode cX6_takeWord 31 = .ok (.iconst 1, 1) := oc_4 (by decide +kernel)
theorem dX6_takeWord_32 : decode cX6_takeWord 32 = .ok (.iadd, 1) := oc_96 (by decide +kernel)
theorem dX6_takeWord_33 : decode cX6_takeWord 33 = .ok (.putfield 19, 3) := oc_181 (a := 0) (b := 19) (by decide +kernel)
theorem dX6_takeWord_36 : decode cX6_takeWord 36 = .ok (.goto (-36), 3) := oc_167 (a := 255) (b := 220) (by decide +kernel)
theorem dX6_advance_0 : decode cX6_advance 0 = .ok (.aload_n 0, 1) := oc_42 (by decide +kernel)
theorem dX6_advance_1 : decode cX6_advance 1 = .ok (.getfield 19, 3) := oc_180 (a := 0) (b := 19) (by decide +kernel)
theorem dX6_advance_4 : decode cX6_advance 4 = .ok (.aload_n 0, 1) := oc_42 (by decide +kernel)
theorem dX6_advance_5 : decode cX6_advance 5 = .ok (.getfield 15, 3) := oc_180 (a := 0) (b := 15) (by decide +kernel)
theorem dX6_advance_52 : decode cX6_advance 52 = .ok (.aload_n 0, 1) := oc_42 (by decide +kernel)
theorem dX6_advance_53 : decode cX6_advance 53 = .ok (.aload_n 0, 1) := oc_42 (by decide +kernel)
theorem dX6_advance_54 : decode cX6_advance 54 = .ok (.getfield 19, 3) := oc_180 (a := 0) (b := 19) (by decide +kernel)
theorem dX6_advance_57 : decode cX6_advance 57 = .ok (.putfield 22, 3) := oc_181 (a := 0) (b := 22) (by decide +kernel)
theorem dX6_advance_60 : decode cX6_advance 60 = .ok (.aload_n 0, 1) := oc_42 (by decide +kernel)
theorem dX6_advance_61 : decode cX6_advance 61 = .ok (.getfield 19, 3) := oc_180 (a := 0) (b := 19) (by decide +kernel)
theorem dX6_advance_64 : decode cX6_advance 64 = .ok (.aload_n 0, 1) := oc_42 (by decide +kernel)
theorem dX6_advance_65 : decode cX6_advance 65 = .ok (.getfield 15, 3) := oc_180 (a := 0) (b := 15) (by decide +kernel)
theorem dX6_advance_68 : decode cX6_advance 68 = .ok (.if_icmp .lt 12, 3) := oc_161 (a := 0) (b := 12) (by decide +kernel)
theorem dX6_advance_80 : decode cX6_advance 80 = .ok (.aload_n 0, 1) := oc_42 (by decide +kernel)
theorem dX6_advance_81 : decode cX6_advance 81 = .ok (.getfield 9, 3) := oc_180 (a := 0) (b := 9) (by decide +kernel)
theorem dX6_advance_84 : decode cX6_advance 84 = .ok (.aload_n 0, 1) := oc_42 (by decide +kernel)
theorem dX6_advance_85 : decode cX6_advance 85 = .ok (.getfield 19, 3) := oc_180 (a := 0) (b := 19) (by decide +kernel)
theorem dX6_advance_88 : decode cX6_advance 88 = .ok (.iaload, 1) := oc_46 (by decide +kernel)
theorem dX6_advance_89 : decode cX6_advance 89 = .ok (.invokestatic 28, 3) := oc_184 (a := 0) (b := 28) (by decide +kernel)
theorem dX6_advance_92 : decode cX6_advance 92 = .ok (.ifCond .eq 10, 3) := oc_153 (a := 0) (b := 10) (by decide +kernel)
theorem dX6_advance_102 : decode cX6_advance 102 = .ok (.aload_n 0, 1) := oc_42 (by decide +kernel)
theorem dX6_advance_103 : decode cX6_advance 103 = .ok (.getfield 9, 3) := oc_180 (a := 0) (b := 9) (by decide +kernel)
theorem dX6_advance_106 : decode cX6_advance 106 = .ok (.aload_n 0, 1) := oc_42 (by decide +kernel)
theorem dX6_advance_107 : decode cX6_advance 107 = .ok (.getfield 19, 3) := oc_180 (a := 0) (b := 19) (by decide +kernel)
theorem dX6_advance_110 : decode cX6_advance 110 = .ok (.iaload, 1) := oc_46 (by decide +kernel)
theorem dX6_advance_111 : decode cX6_advance 111 = .ok (.invokestatic 35, 3) := oc_184 (a := 0) (b := 35) (by decide +kernel)
theorem dX6_advance_114 : decode cX6_advance 114 = .ok (.ifCond .eq 10, 3) := oc_153 (a := 0) (b := 10) (by decide +kernel)
theorem dX6_advance_124 : decode cX6_advance 124 = .ok (.aload_n 0, 1) := oc_42 (by decide +kernel)
theorem dX6_advance_125 : decode cX6_advance 125 = .ok (.aload_n 0, 1) := oc_42 (by decide +kernel)
theorem dX6_advance_126 : decode cX6_advance 126 = .ok (.getfield 9, 3) := oc_180 (a := 0) (b := 9) (by decide +kernel)
theorem dX6_advance_129 : decode cX6_advance 129 = .ok (.aload_n 0, 1) := oc_42 (by decide +kernel)
theorem dX6_advance_130 : decode cX6_advance 130 = .ok (.getfield 19, 3) := oc_180 (a := 0) (b := 19) (by decide +kernel)
theorem dX6_advance_133 : decode cX6_advance 133 = .ok (.iaload, 1) := oc_46 (by decide +kernel)
theorem tw_734 : Cond.methodLink RX6 41 yX6_signOf ∈ wsL_law := sg_31 _ (List.mem_of_getElem? (i := 14) rfl)
theorem tw_735 : Cond.static yX6_signOf ∈ wsL_law := sg_31 _ (List.mem_of_getElem? (i := 15) rfl)
theorem tw_736 : Cond.code yX6_signOf cX6_signOf 1 (some .int) ∈ wsL_law := sg_31 _ (List.mem_of_getElem? (i := 16) rfl)
theorem dX6_advance_134 : decode cX6_advance 134 = .ok (.invokestatic 41, 3) := oc_184 (a := 0) (b := 41) (by decide +kernel)
theorem dX6_advance_137 : decode cX6_advance 137 = .ok (.putfield 25, 3) := oc_181 (a := 0) (b := 25) (by decide +kernel)
theorem dX6_advance_140 : decode cX6_advance 140 = .ok (.aload_n 0, 1) := oc_42 (by decide +kernel)
theorem dX6_advance_141 : decode cX6_advance 141 = .ok (.dup, 1) := oc_89 (by decide +kernel)
theorem dX6_advance_142 : decode cX6_advance 142 = .ok (.getfield 19, 3) := oc_180 (a := 0) (b := 19) (by decide +kernel)
theorem dX6_advance_145 : decode cX6_advance 145 = .ok (.iconst 1, 1) := oc_4 (by decide +kernel)
theorem dX6_advance_146 : decode cX6_advance 146 = .ok (.iadd, 1) := oc_96 (by decide +kernel)
theorem dX6_advance_147 : decode cX6_advance 147 = .ok (.putfield 19, 3) := oc_181 (a := 0) (b := 19) (by decide +kernel)
theorem dX6_advance_150 : decode cX6_advance 150 = .ok (.aload_n 0, 1) := oc_42 (by decide +kernel)
theorem tw_737 : Cond.methodLink RX6 45 yX6_takeLonger ∈ wsL_law := sg_31 _ (List.mem_of_getElem? (i := 17) rfl)
theorem tw_738 : Cond.instanceMethod yX6_takeLonger ∈ wsL_law := sg_31 _ (List.mem_of_getElem? (i := 18) rfl)
theorem tw_739 : Cond.selects RX6 yX6_takeLonger yX6_takeLonger ∈ wsL_law := sg_31 _ (List.mem_of_getElem? (i := 19) rfl)
theorem tw_740 : Cond.code yX6_takeLonger cX6_takeLonger 2 none ∈ wsL_law := sg_31 _ (List.mem_of_getElem? (i := 20) rfl)
theorem dX6_advance_151 : decode cX6_advance 151 = .ok (.invokevirtual 45, 3) := oc_182 (a := 0) (b := 45) (by decide +kernel)
theorem dX6_advance_154 : decode cX6_advance 154 = .ok (.return_, 1) := oc_177 (by decide +kernel)
theorem dX6_advance_117 : decode cX6_advance 117 = .ok (.aload_n 0, 1) := oc_42 (by decide +kernel)
theorem tw_681 : Cond.methodLink RX6 38 yX6_takeWord ∈ wsL_law := sg_29 _ (List.mem_of_getElem? (i := 9) rfl)
theorem tw_682 : Cond.instanceMethod yX6_takeWord ∈ wsL_law := sg_29 _ (List.mem_of_getElem? (i := 10) rfl)
theorem tw_683 : Cond.selects RX6 yX6_takeWord yX6_takeWord ∈ wsL_law := sg_29 _ (List.mem_of_getElem? (i := 11) rfl)
theorem tw_684 : Cond.code yX6_takeWord cX6_takeWord 5 none ∈ wsL_law := sg_29 _ (List.mem_of_getElem? (i := 12) rfl)
theorem dX6_advance_118 : decode cX6_advance 118 = .ok (.invokevirtual 38, 3) := oc_182 (a := 0) (b := 38) (by decide +kernel)
theorem dX6_advance_121 : decode cX6_advance 121 = .ok (.goto 33, 3) := oc_167 (a := 0) (b := 33) (by decide +kernel)
theorem dX6_advance_95 : decode cX6_advance 95 = .ok (.aload_n 0, 1) := oc_42 (by decide +kernel)
theorem tw_672 : Cond.methodLink RX6 32 yX6_takeNumber ∈ wsL_law := sg_29 _ (List.mem_of_getElem? (i := 0) rfl)
theorem tw_673 : Cond.instanceMethod yX6_takeNumber ∈ wsL_law := sg_29 _ (List.mem_of_getElem? (i := 1) rfl)
theorem tw_674 : Cond.selects RX6 yX6_takeNumber yX6_takeNumber ∈ wsL_law := sg_29 _ (List.mem_of_getElem? (i := 2) rfl)
theorem tw_675 : Cond.code yX6_takeNumber cX6_takeNumber 1 none ∈ wsL_law := sg_29 _ (List.mem_of_getElem? (i := 3) rfl)
theorem dX6_advance_96 : decode cX6_advance 96 = .ok (.invokevirtual 32, 3) := oc_182 (a := 0) (b := 32) (by decide +kernel)
theorem dX6_advance_99 : decode cX6_advance 99 = .ok (.goto 55, 3) := oc_167 (a := 0) (b := 55) (by decide +kernel)
theorem dX6_advance_71 : decode cX6_advance 71 = .ok (.aload_n 0, 1) := oc_42 (by decide +kernel)
theorem dX6_advance_72 : decode cX6_advance 72 = .ok (.bipush 33, 2) := oc_16 (a := 33) (by decide +kernel)
theorem dX6_advance_74 : decode cX6_advance 74 = .ok (.putfield 25, 3) := oc_181 (a := 0) (b := 25) (by decide +kernel)
theorem dX6_advance_77 : decode cX6_advance 77 = .ok (.goto 77, 3) := oc_167 (a := 0) (b := 77) (by decide +kernel)
theorem dX6_advance_8 : decode cX6_advance 8 = .ok (.if_icmp .ge 44, 3) := oc_162 (a := 0) (b := 44) (by decide +kernel)
theorem dX6_advance_11 : decode cX6_advance 11 = .ok (.aload_n 0, 1) := oc_42 (by decide +kernel)
theorem dX6_advance_12 : decode cX6_advance 12 = .ok (.getfield 9, 3) := oc_180 (a := 0) (b := 9) (by decide +kernel)
theorem dX6_advance_15 : decode cX6_advance 15 = .ok (.aload_n 0, 1) := oc_42 (by decide +kernel)
theorem dX6_advance_16 : decode cX6_advance 16 = .ok (.getfield 19, 3) := oc_180 (a := 0) (b := 19) (by decide +kernel)
theorem dX6_advance_19 : decode cX6_advance 19 = .ok (.iaload, 1) := oc_46 (by decide +kernel)
theorem dX6_advance_20 : decode cX6_advance 20 = .ok (.bipush 32, 2) := oc_16 (a := 32) (by decide +kernel)
theorem dX6_advance_22 : decode cX6_advance 22 = .ok (.if_icmp .eq 17, 3) := oc_159 (a := 0) (b := 17) (by decide +kernel)
theorem dX6_advance_39 : decode cX6_advance 39 = .ok (.aload_n 0, 1) := oc_42 (by decide +kernel)
theorem dX6_advance_40 : decode cX6_advance 40 = .ok (.dup, 1) := oc_89 (by decide +kernel)
theorem dX6_advance_41 : decode cX6_advance 41 = .ok (.getfield 19, 3) := oc_180 (a := 0) (b := 19) (by decide +kernel)
theorem dX6_advance_44 : decode cX6_advance 44 = .ok (.iconst 1, 1) := oc_4 (by decide +kernel)
theorem dX6_advance_45 : decode cX6_advance 45 = .ok (.iadd, 1) := oc_96 (by decide +kernel)
theorem dX6_advance_46 : decode cX6_advance 46 = .ok (.putfield 19, 3) := oc_181 (a := 0) (b := 19) (by decide +kernel)
theorem dX6_advance_49 : decode cX6_advance 49 = .ok (.goto (-49), 3) := oc_167 (a := 255) (b := 207) (by decide +kernel)
theorem dX6_advance_25 : decode cX6_advance 25 = .ok (.aload_n 0, 1) := oc_42 (by decide +kernel)
theorem dX6_advance_26 : decode cX6_advance 26 = .ok (.getfield 9, 3) := oc_180 (a := 0) (b := 9) (by decide +kernel)
theorem dX6_advance_29 : decode cX6_advance 29 = .ok (.aload_n 0, 1) := oc_42 (by decide +kernel)
theorem dX6_advance_30 : decode cX6_advance 30 = .ok (.getfield 19, 3) := oc_180 (a := 0) (b := 19) (by decide +kernel)
theorem dX6_advance_33 : decode cX6_advance 33 = .ok (.iaload, 1) := oc_46 (by decide +kernel)
theorem dX6_advance_34 : decode cX6_advance 34 = .ok (.bipush 10, 2) := oc_16 (a := 10) (by decide +kernel)
theorem dX6_advance_36 : decode cX6_advance 36 = .ok (.if_icmp .ne 16, 3) := oc_160 (a := 0) (b := 16) (by decide +kernel)
/-! ===== rows of starts, clauses ===== -/
def FI (σ : pq_S) : Prop := ∀ w v q : Nat, w ∈ σ.1 → v ∈ σ.1 → σ.2.1 w = 8 → σ.2.1 v = 8 → σ.2.2.1 258 w = some q → σ.2.2.1 258 v = some q → w = v
theorem max_or (x y : Int32) : (if x < y then y else x).toInt = x.toInt ∨ (if x < y then y else x).toInt = y.toInt := by
  split
  · exact Or.inr rfl
  · exact Or.inl rfl
section FTS
variable {tg : Nat → Nat} {ri r0 r1 : Nat → Nat → Int32}
theorem ft_t (h : ∀ q, tg q = 258 → r0 q = ri q) (h1 : ∀ q, tg q = 258 → r1 q = r0 q) : ∀ q, tg q = 258 → r1 q = ri q := fun q hq => (h1 q hq).trans (h q hq)
theorem ft_w (h : ∀ q, tg q = 258 → r0 q = ri q) {a t : Nat} {f : Nat → Int32} (e : r1 = va_up r0 a f) (ht : tg a = t) (hn : t ≠ 258) : ∀ q, tg q = 258 → r1 q = ri q := fun q hq => by
  rw [e, va_up_ne _ _ (fun y => hn (by rw [← ht, ← y]; exact hq))]
  exact h q hq
end FTS
section GXW
variable {X : List Nat} {tg : Nat → Nat} {σ : pq_S} {I0 r0 I I1 ri r1 : Nat → Nat → Int32} {j0 rj : Nat → Nat → Int64} {rq : Nat → Nat → Option Nat}
theorem GX.wF (h : GX X tg σ I0 r0 j0 I ri rj rq) (hFI : FI σ) {w q : Nat} {i v : Int32} (hw : w ∈ σ.1) (hk : σ.2.1 w = 8) (hR : σ.2.2.1 258 w = some q) (e1 : r1 = va_up ri q (upd (ri q) i.toNatClampNeg v)) (hv : rg v 0 300) (hi : (I 256 w).toInt ≤ i.toInt) (hT : tg q = 258) : GX X tg σ I0 r0 j0 I r1 rj rq := by
  subst e1
  refine ⟨⟨h.1.1, fun p j => ?_, h.1.2.2.1, ?_⟩, h.2.1, fun t2 ht2 hx q2 hq2 => ?_, h.2.2.2⟩
  · by_cases hp : p = q
    · subst hp
      rw [va_up_self]
      unfold upd
      split
      · rw [hT]; exact hv
      · exact h.1.2.1 p j
    · rw [va_up_ne _ _ hp]
      exact h.1.2.1 p j
  · intro w2 hw2 hk2 z hz c hc
    by_cases hzq : z = q
    · subst hzq
      have e := hFI w2 w z hw2 hw hk2 hk hz hR
      subst e
      rw [va_up_self]
      unfold upd
      have hi2 : i.toInt.toNat = i.toNatClampNeg := rfl
      rw [if_neg (by omega)]
      exact h.1.2.2.2 w2 hw2 hk2 z hz c hc
    · rw [va_up_ne _ _ hzq]
      exact h.1.2.2.2 w2 hw2 hk2 z hz c hc
  · have hne : q2 ≠ q := fun y => by
      rw [y, hT] at hq2
      rw [← hq2] at ht2
      exact absurd ht2 (by decide +kernel)
    rw [va_up_ne _ _ hne]
    exact h.2.2.1 t2 ht2 hx q2 hq2
theorem GX.wC (h : GX X tg σ I0 r0 j0 I ri rj rq) {w q : Nat} {v : Int32} (hR : σ.2.2.1 258 w = some q) (e1 : I1 = pq_u I 256 w v) (hv : rg v 0 20) (hcl : v.toInt = (I 256 w).toInt + 1) (hq : (ri q (I 256 w).toNatClampNeg).toInt ≤ 299) (hX : 256 ∈ X) : GX X tg σ I0 r0 j0 I1 ri rj rq := by
  subst e1
  refine ⟨⟨fun g b => ?_, h.1.2.1, h.1.2.2.1, ?_⟩, fun g hg hx => ?_, h.2.2⟩
  · by_cases hgf : g = 256
    · subst hgf
      by_cases hb : b = w
      · subst hb
        rw [pq_us]
        exact hv
      · rw [pq_ua _ _ _ _ hb]
        exact h.1.1 256 b
    · rw [pq_uf _ _ _ hgf]
      exact h.1.1 g b
  · intro w2 hw2 hk2 z hz c hc
    by_cases hw : w2 = w
    · subst hw
      rw [pq_us] at hc
      have e : z = q := Option.some.inj (hz.symm.trans hR)
      subst e
      by_cases hcc : (c : Int) < (I 256 w2).toInt
      · exact h.1.2.2.2 w2 hw2 hk2 z hz c hcc
      · have e2 : (I 256 w2).toInt.toNat = (I 256 w2).toNatClampNeg := rfl
        have e3 : c = (I 256 w2).toNatClampNeg := by omega
        rw [e3]
        exact hq
    · rw [pq_ua _ _ _ _ hw] at hc
      exact h.1.2.2.2 w2 hw2 hk2 z hz c hc
  · have hgf : g ≠ 256 := fun q => hx (by rw [q]; exact hX)
    rw [pq_uf _ _ _ hgf]
    exact h.2.1 g hg hx
end GXW
set_option maxRecDepth 100000 in
def g_X6_isDigit_x (a0 : Int32) : Int32 := (if a0 < (48 : Int32) then (0 : Int32) else (if (57 : Int32) < a0 then (0 : Int32) else (1 : Int32)))
set_option maxRecDepth 100000 in
theorem g_X6_isDigit_x_e {a0 : Int32} : g_X6_isDigit_x a0 = (if a0 < (48 : Int32) then (0 : Int32) else (if (57 : Int32) < a0 then (0 : Int32) else (1 : Int32))) := rfl
set_option maxHeartbeats 4000000 in
set_option maxRecDepth 100000 in
theorem s_X6_isDigit_x (l : Launch) (D : va_G) (t : pq_T) (σ : pq_S) (I : Nat → Nat → Int32) (J : Nat → Nat → Int64) (ri : Nat → Nat → Int32) (rj : Nat → Nat → Int64) (rq : Nat → Nat → Option Nat) (sz : Nat) (tg : Nat → Nat) (hSH : SH σ tg) (hG0 : GS tg σ I ri rq) (a0 : Int32) : MetI l yX6_isDigit (wa yX6_isDigit cX6_isDigit 1 (some .boolean)) ({ frames := 0, cells := 0, slots := 0, locals := 0 }) [.int a0] D t σ (I, J, ri, rj, rq) sz 0 0 (fun (r : Int32) (u : pq_S × pq_M) => u = (σ, I, J, ri, rj, rq) ∧ g_X6_isDigit_x a0 = r ∧ ((r = 1 ∧ rg a0 48 57 ∧ (48 ≤ a0.toInt ∧ a0.toInt ≤ 57)) ∨ (r = 0 ∧ (a0.toInt < 48 ∨ 57 < a0.toInt)))) := by
  refine Met.ofW (cc := cX6_isDigit) (maxL := 1) (ret := (some .boolean)) (by decide +kernel) rfl ?_
  intro p e s m args below meth c s₁ B hml hv
  obtain ⟨rfl, hsz, hP, hK, hD0, hN⟩ := hv
  have hx := B.exec
  have hb := B.bytes
  have hr := B.returns
  have hts := atoms_spec (ws := (wa yX6_isDigit cX6_isDigit 1 (some .boolean))) B.pre
  have hown : s.vm.findClass RX6 = some m.cls := findClass_of_methodNamed B.named
  have hlocks := B.notSynchronized
  subst hsz
  have hD : va_D (pq_B t σ (I, J, ri, rj, rq) s.heap.size) (pq_P t σ (I, J, ri, rj, rq)) := hD0.self
  generalize hAe : pq_B t σ (I, J, ri, rj, rq) s.heap.size = A at hD ⊢
  have hA : ∀ q : Nat, s.heap.size ≤ q → A q := fun q h => by rw [← hAe]; exact Or.inr h
  have hS : va_S A s.heap s.heap [] := va_S.rf
  have hG : GX [] tg σ I ri rj I ri rj rq := ⟨hG0, fun _ _ _ => rfl, fun _ _ _ _ _ => rfl, fun _ _ _ _ _ => rfl⟩
  have hl := lv_entry ([.int a0]) (n := 1) (Nat.le_of_ble_eq_true rfl)
  rw [lg_entry_eq]
  generalize (lg_sl ([.int a0]) ++ List.replicate (1 - (lg_sl ([.int a0])).length) Slot.unset).toArray = ls at hl ⊢
  have hl : lv_has ls 1 [(0, .int a0)] := hl
  refine q_gen (fun Q hQ => ?_)
  have go : ∀ (H : Heap) (locs : List Loc) (ls : Array Slot), va_P D vwCl (pq_P t σ (I, J, ri, rj, rq)) H → va_D A (pq_P t σ (I, J, ri, rj, rq)) → va_S A s.heap H locs → lv_has ls 1 [(0, .int a0)] → W p l e ({ frames := 0, cells := 0, slots := 0, locals := 0 } : Room) s m (List.toArray ([.int a0] : List Value)) below meth c H locs 0 0 Q (F0 m 0 ls []) := by
    intro H locs ls hP hD hS hl
    obtain ⟨F, hF0⟩ : ∃ F, F = g_X6_isDigit_x a0 := ⟨_, rfl⟩
    have hF := hF0.trans g_X6_isDigit_x_e
    refine lv_iload_n hx hb dX6_isDigit_0 rfl (lv_at hl 0 rfl) ?_
    refine lv_bipush (v := 48) hx hb dX6_isDigit_1 (by decide +kernel) ?_
    refine lv_icmp_lt (tgt := 16) hx hb dX6_isDigit_3 (by decide +kernel) (fun c_1 => ?_) (fun c_1 => ?_)
    · replace hF := hF.trans (if_pos c_1)
      have tc_6 : (a0).toInt < 48 := Int32.lt_iff_toInt_lt.mp c_1
      have h_7 : rg a0 (-2147483648) 47 := rg_lt1 c_1 (rg_full _) (rg_k (48 : Int32) 48 rfl) (by decide +kernel)
      have uh_7 := h_7.1
      have vh_7 := h_7.2
      refine lv_iconst (v := 0) hx hb dX6_isDigit_16 (by decide +kernel) ?_
      subst hQ
      exact W.zret (v := 0) hx hb hr (by decide +kernel) (fun t1 ht hW => ⟨⟨0, (σ, I, J, ri, rj, rq), rfl, ⟨rfl, (hF0.symm.trans hF), (Or.inr ⟨rfl, (by omega)⟩)⟩, by rw [ht]; exact hP, va_K.moved hW.alike hK, hD⟩, hS.F ht⟩) hS.2.2 dX6_isDigit_17
    · replace hF := hF.trans (if_neg c_1)
      have tc_8 : 48 ≤ (a0).toInt := Int32.le_iff_toInt_le.mp (nlt c_1)
      have h_9 : rg a0 48 2147483647 := rg_le2 (nlt c_1) (rg_k (48 : Int32) 48 rfl) (rg_full _) (by decide +kernel)
      have uh_9 := h_9.1
      have vh_9 := h_9.2
      refine lv_iload_n hx hb dX6_isDigit_6 rfl (lv_at hl 0 rfl) ?_
      refine lv_bipush (v := 57) hx hb dX6_isDigit_7 (by decide +kernel) ?_
      refine lv_icmp_gt (tgt := 16) hx hb dX6_isDigit_9 (by decide +kernel) (fun c_10 => ?_) (fun c_10 => ?_)
      · replace hF := hF.trans (if_pos c_10)
        have tc_15 : 57 < (a0).toInt := Int32.lt_iff_toInt_lt.mp c_10
        have h_16 : rg a0 58 2147483647 := rg_lt2 c_10 (rg_k (57 : Int32) 57 rfl) h_9 (by decide +kernel)
        have uh_16 := h_16.1
        have vh_16 := h_16.2
        refine lv_iconst (v := 0) hx hb dX6_isDigit_16 (by decide +kernel) ?_
        subst hQ
        exact W.zret (v := 0) hx hb hr (by decide +kernel) (fun t1 ht hW => ⟨⟨0, (σ, I, J, ri, rj, rq), rfl, ⟨rfl, (hF0.symm.trans hF), (Or.inr ⟨rfl, (by omega)⟩)⟩, by rw [ht]; exact hP, va_K.moved hW.alike hK, hD⟩, hS.F ht⟩) hS.2.2 dX6_isDigit_17
      · replace hF := hF.trans (if_neg c_10)
        have tc_17 : (a0).toInt ≤ 57 := Int32.le_iff_toInt_le.mp (nlt c_10)
        have h_18 : rg a0 48 57 := rg_le1 (nlt c_10) h_9 (rg_k (57 : Int32) 57 rfl) (by decide +kernel)
        have uh_18 := h_18.1
        have vh_18 := h_18.2
        refine lv_iconst (v := 1) hx hb dX6_isDigit_12 (by decide +kernel) ?_
        refine lv_goto (tgt := 17) hx hb dX6_isDigit_13 (by decide +kernel) ?_
        subst hQ
        exact W.zret (v := 1) hx hb hr (by decide +kernel) (fun t1 ht hW => ⟨⟨1, (σ, I, J, ri, rj, rq), rfl, ⟨rfl, (hF0.symm.trans hF), (Or.inl ⟨rfl, (rg_w h_18 (by decide +kernel)), (by omega)⟩)⟩, by rw [ht]; exact hP, va_K.moved hW.alike hK, hD⟩, hS.F ht⟩) hS.2.2 dX6_isDigit_17
  exact go _ _ _ hP hD hS hl

set_option maxRecDepth 100000 in
def g_X6_isLetter_x (a0 : Int32) : Int32 := (if a0 < (97 : Int32) then (if a0 < (65 : Int32) then (0 : Int32) else (if (90 : Int32) < a0 then (0 : Int32) else (1 : Int32))) else (if a0 ≤ (122 : Int32) then (1 : Int32) else (0 : Int32)))
set_option maxRecDepth 100000 in
theorem g_X6_isLetter_x_e {a0 : Int32} : g_X6_isLetter_x a0 = (if a0 < (97 : Int32) then (if a0 < (65 : Int32) then (0 : Int32) else (if (90 : Int32) < a0 then (0 : Int32) else (1 : Int32))) else (if a0 ≤ (122 : Int32) then (1 : Int32) else (0 : Int32))) := rfl
set_option maxHeartbeats 4000000 in
set_option maxRecDepth 100000 in
theorem s_X6_isLetter_x (l : Launch) (D : va_G) (t : pq_T) (σ : pq_S) (I : Nat → Nat → Int32) (J : Nat → Nat → Int64) (ri : Nat → Nat → Int32) (rj : Nat → Nat → Int64) (rq : Nat → Nat → Option Nat) (sz : Nat) (tg : Nat → Nat) (hSH : SH σ tg) (hG0 : GS tg σ I ri rq) (a0 : Int32) : MetI l yX6_isLetter (wa yX6_isLetter cX6_isLetter 1 (some .boolean)) ({ frames := 0, cells := 0, slots := 0, locals := 0 }) [.int a0] D t σ (I, J, ri, rj, rq) sz 0 0 (fun (r : Int32) (u : pq_S × pq_M) => u = (σ, I, J, ri, rj, rq) ∧ g_X6_isLetter_x a0 = r ∧ ((r = 1 ∧ rg a0 65 122 ∧ ((65 ≤ a0.toInt ∧ a0.toInt ≤ 90 ∨ 97 ≤ a0.toInt ∧ a0.toInt ≤ 122))) ∨ (r = 0 ∧ (¬ (65 ≤ a0.toInt ∧ a0.toInt ≤ 90 ∨ 97 ≤ a0.toInt ∧ a0.toInt ≤ 122))))) := by
  refine Met.ofW (cc := cX6_isLetter) (maxL := 1) (ret := (some .boolean)) (by decide +kernel) rfl ?_
  intro p e s m args below meth c s₁ B hml hv
  obtain ⟨rfl, hsz, hP, hK, hD0, hN⟩ := hv
  have hx := B.exec
  have hb := B.bytes
  have hr := B.returns
  have hts := atoms_spec (ws := (wa yX6_isLetter cX6_isLetter 1 (some .boolean))) B.pre
  have hown : s.vm.findClass RX6 = some m.cls := findClass_of_methodNamed B.named
  have hlocks := B.notSynchronized
  subst hsz
  have hD : va_D (pq_B t σ (I, J, ri, rj, rq) s.heap.size) (pq_P t σ (I, J, ri, rj, rq)) := hD0.self
  generalize hAe : pq_B t σ (I, J, ri, rj, rq) s.heap.size = A at hD ⊢
  have hA : ∀ q : Nat, s.heap.size ≤ q → A q := fun q h => by rw [← hAe]; exact Or.inr h
  have hS : va_S A s.heap s.heap [] := va_S.rf
  have hG : GX [] tg σ I ri rj I ri rj rq := ⟨hG0, fun _ _ _ => rfl, fun _ _ _ _ _ => rfl, fun _ _ _ _ _ => rfl⟩
  have hl := lv_entry ([.int a0]) (n := 1) (Nat.le_of_ble_eq_true rfl)
  rw [lg_entry_eq]
  generalize (lg_sl ([.int a0]) ++ List.replicate (1 - (lg_sl ([.int a0])).length) Slot.unset).toArray = ls at hl ⊢
  have hl : lv_has ls 1 [(0, .int a0)] := hl
  refine q_gen (fun Q hQ => ?_)
  have go : ∀ (H : Heap) (locs : List Loc) (ls : Array Slot), va_P D vwCl (pq_P t σ (I, J, ri, rj, rq)) H → va_D A (pq_P t σ (I, J, ri, rj, rq)) → va_S A s.heap H locs → lv_has ls 1 [(0, .int a0)] → W p l e ({ frames := 0, cells := 0, slots := 0, locals := 0 } : Room) s m (List.toArray ([.int a0] : List Value)) below meth c H locs 0 0 Q (F0 m 0 ls []) := by
    intro H locs ls hP hD hS hl
    obtain ⟨F, hF0⟩ : ∃ F, F = g_X6_isLetter_x a0 := ⟨_, rfl⟩
    have hF := hF0.trans g_X6_isLetter_x_e
    refine lv_iload_n hx hb dX6_isLetter_0 rfl (lv_at hl 0 rfl) ?_
    refine lv_bipush (v := 97) hx hb dX6_isLetter_1 (by decide +kernel) ?_
    refine lv_icmp_lt (tgt := 12) hx hb dX6_isLetter_3 (by decide +kernel) (fun c_1 => ?_) (fun c_1 => ?_)
    · replace hF := hF.trans (if_pos c_1)
      have tc_6 : (a0).toInt < 97 := Int32.lt_iff_toInt_lt.mp c_1
      have h_7 : rg a0 (-2147483648) 96 := rg_lt1 c_1 (rg_full _) (rg_k (97 : Int32) 97 rfl) (by decide +kernel)
      have uh_7 := h_7.1
      have vh_7 := h_7.2
      refine lv_iload_n hx hb dX6_isLetter_12 rfl (lv_at hl 0 rfl) ?_
      refine lv_bipush (v := 65) hx hb dX6_isLetter_13 (by decide +kernel) ?_
      refine lv_icmp_lt (tgt := 28) hx hb dX6_isLetter_15 (by decide +kernel) (fun c_8 => ?_) (fun c_8 => ?_)
      · replace hF := hF.trans (if_pos c_8)
        have tc_13 : (a0).toInt < 65 := Int32.lt_iff_toInt_lt.mp c_8
        have h_14 : rg a0 (-2147483648) 64 := rg_lt1 c_8 h_7 (rg_k (65 : Int32) 65 rfl) (by decide +kernel)
        have uh_14 := h_14.1
        have vh_14 := h_14.2
        refine lv_iconst (v := 0) hx hb dX6_isLetter_28 (by decide +kernel) ?_
        subst hQ
        exact W.zret (v := 0) hx hb hr (by decide +kernel) (fun t1 ht hW => ⟨⟨0, (σ, I, J, ri, rj, rq), rfl, ⟨rfl, (hF0.symm.trans hF), (Or.inr ⟨rfl, (by omega)⟩)⟩, by rw [ht]; exact hP, va_K.moved hW.alike hK, hD⟩, hS.F ht⟩) hS.2.2 dX6_isLetter_29
      · replace hF := hF.trans (if_neg c_8)
        have tc_15 : 65 ≤ (a0).toInt := Int32.le_iff_toInt_le.mp (nlt c_8)
        have h_16 : rg a0 65 96 := rg_le2 (nlt c_8) (rg_k (65 : Int32) 65 rfl) h_7 (by decide +kernel)
        have uh_16 := h_16.1
        have vh_16 := h_16.2
        refine lv_iload_n hx hb dX6_isLetter_18 rfl (lv_at hl 0 rfl) ?_
        refine lv_bipush (v := 90) hx hb dX6_isLetter_19 (by decide +kernel) ?_
        refine lv_icmp_gt (tgt := 28) hx hb dX6_isLetter_21 (by decide +kernel) (fun c_17 => ?_) (fun c_17 => ?_)
        · replace hF := hF.trans (if_pos c_17)
          have tc_22 : 90 < (a0).toInt := Int32.lt_iff_toInt_lt.mp c_17
          have h_23 : rg a0 91 96 := rg_lt2 c_17 (rg_k (90 : Int32) 90 rfl) h_16 (by decide +kernel)
          have uh_23 := h_23.1
          have vh_23 := h_23.2
          refine lv_iconst (v := 0) hx hb dX6_isLetter_28 (by decide +kernel) ?_
          subst hQ
          exact W.zret (v := 0) hx hb hr (by decide +kernel) (fun t1 ht hW => ⟨⟨0, (σ, I, J, ri, rj, rq), rfl, ⟨rfl, (hF0.symm.trans hF), (Or.inr ⟨rfl, (by omega)⟩)⟩, by rw [ht]; exact hP, va_K.moved hW.alike hK, hD⟩, hS.F ht⟩) hS.2.2 dX6_isLetter_29
        · replace hF := hF.trans (if_neg c_17)
          have tc_24 : (a0).toInt ≤ 90 := Int32.le_iff_toInt_le.mp (nlt c_17)
          have h_25 : rg a0 65 90 := rg_le1 (nlt c_17) h_16 (rg_k (90 : Int32) 90 rfl) (by decide +kernel)
          have uh_25 := h_25.1
          have vh_25 := h_25.2
          refine lv_iconst (v := 1) hx hb dX6_isLetter_24 (by decide +kernel) ?_
          refine lv_goto (tgt := 29) hx hb dX6_isLetter_25 (by decide +kernel) ?_
          subst hQ
          exact W.zret (v := 1) hx hb hr (by decide +kernel) (fun t1 ht hW => ⟨⟨1, (σ, I, J, ri, rj, rq), rfl, ⟨rfl, (hF0.symm.trans hF), (Or.inl ⟨rfl, (rg_w h_25 (by decide +kernel)), (by omega)⟩)⟩, by rw [ht]; exact hP, va_K.moved hW.alike hK, hD⟩, hS.F ht⟩) hS.2.2 dX6_isLetter_29
    · replace hF := hF.trans (if_neg c_1)
      have tc_26 : 97 ≤ (a0).toInt := Int32.le_iff_toInt_le.mp (nlt c_1)
      have h_27 : rg a0 97 2147483647 := rg_le2 (nlt c_1) (rg_k (97 : Int32) 97 rfl) (rg_full _) (by decide +kernel)
      have uh_27 := h_27.1
      have vh_27 := h_27.2
      refine lv_iload_n hx hb dX6_isLetter_6 rfl (lv_at hl 0 rfl) ?_
      refine lv_bipush (v := 122) hx hb dX6_isLetter_7 (by decide +kernel) ?_
      refine lv_icmp_le (tgt := 24) hx hb dX6_isLetter_9 (by decide +kernel) (fun c_28 => ?_) (fun c_28 => ?_)
      · replace hF := hF.trans (if_pos c_28)
        have tc_33 : (a0).toInt ≤ 122 := Int32.le_iff_toInt_le.mp c_28
        have h_34 : rg a0 97 122 := rg_le1 c_28 h_27 (rg_k (122 : Int32) 122 rfl) (by decide +kernel)
        have uh_34 := h_34.1
        have vh_34 := h_34.2
        refine lv_iconst (v := 1) hx hb dX6_isLetter_24 (by decide +kernel) ?_
        refine lv_goto (tgt := 29) hx hb dX6_isLetter_25 (by decide +kernel) ?_
        subst hQ
        exact W.zret (v := 1) hx hb hr (by decide +kernel) (fun t1 ht hW => ⟨⟨1, (σ, I, J, ri, rj, rq), rfl, ⟨rfl, (hF0.symm.trans hF), (Or.inl ⟨rfl, (rg_w h_34 (by decide +kernel)), (by omega)⟩)⟩, by rw [ht]; exact hP, va_K.moved hW.alike hK, hD⟩, hS.F ht⟩) hS.2.2 dX6_isLetter_29
      · replace hF := hF.trans (if_neg c_28)
        have tc_35 : 122 < (a0).toInt := Int32.lt_iff_toInt_lt.mp (nle c_28)
        have h_36 : rg a0 123 2147483647 := rg_lt2 (nle c_28) (rg_k (122 : Int32) 122 rfl) h_27 (by decide +kernel)
        have uh_36 := h_36.1
        have vh_36 := h_36.2
        refine lv_iload_n hx hb dX6_isLetter_12 rfl (lv_at hl 0 rfl) ?_
        refine lv_bipush (v := 65) hx hb dX6_isLetter_13 (by decide +kernel) ?_
        refine lv_icmp_lt (tgt := 28) hx hb dX6_isLetter_15 (by decide +kernel) (fun c_37 => ?_) (fun c_37 => ?_)
        · have tc_40 : (a0).toInt < 65 := Int32.lt_iff_toInt_lt.mp c_37
          exact (rg_empty (rg_lt1 c_37 h_36 (rg_k (65 : Int32) 65 rfl) (lo := 123) (hi := 64) (by decide +kernel)) (by decide +kernel)).elim
        · have tc_41 : 65 ≤ (a0).toInt := Int32.le_iff_toInt_le.mp (nlt c_37)
          refine lv_iload_n hx hb dX6_isLetter_18 rfl (lv_at hl 0 rfl) ?_
          refine lv_bipush (v := 90) hx hb dX6_isLetter_19 (by decide +kernel) ?_
          refine lv_icmp_gt (tgt := 28) hx hb dX6_isLetter_21 (by decide +kernel) (fun c_42 => ?_) (fun c_42 => ?_)
          · have tc_45 : 90 < (a0).toInt := Int32.lt_iff_toInt_lt.mp c_42
            refine lv_iconst (v := 0) hx hb dX6_isLetter_28 (by decide +kernel) ?_
            subst hQ
            exact W.zret (v := 0) hx hb hr (by decide +kernel) (fun t1 ht hW => ⟨⟨0, (σ, I, J, ri, rj, rq), rfl, ⟨rfl, (hF0.symm.trans hF), (Or.inr ⟨rfl, (by omega)⟩)⟩, by rw [ht]; exact hP, va_K.moved hW.alike hK, hD⟩, hS.F ht⟩) hS.2.2 dX6_isLetter_29
          · have tc_46 : (a0).toInt ≤ 90 := Int32.le_iff_toInt_le.mp (nlt c_42)
            exact (rg_empty (rg_le1 (nlt c_42) h_36 (rg_k (90 : Int32) 90 rfl) (lo := 123) (hi := 90) (by decide +kernel)) (by decide +kernel)).elim
  exact go _ _ _ hP hD hS hl

set_option maxRecDepth 100000 in
def g_X6_takeNumber_x_L11 (J : Nat → Int64) (ri : Nat → Nat → Int32) (rj : Nat → Nat → Int64) (rq : Nat → Nat → Option Nat) : Nat → (Nat → Int32) → vM
  | 0, I_153 => (I_153, J, ri, rj, rq)
  | n_201 + 1, I_153 => (ap1 (I_153 197) fun (y_207 : Int32) => (ap1 (I_153 193) fun (y_209 : Int32) => (if (y_209) ≤ (y_207) then (I_153, J, ri, rj, rq) else (ap1 (ri 192 ((y_207)).toNatClampNeg) fun (x_219 : Int32) => (ap1 (g_X6_isDigit_x x_219) fun (x_221 : Int32) => (if x_221 = (0 : Int32) then (I_153, J, ri, rj, rq) else (ap1 (I_153 196) fun (y_244 : Int32) => (ap1 ((y_244) * (10 : Int32)) fun (x_245 : Int32) => (ap1 (x_245 + x_219) fun (x_246 : Int32) => (ap1 (x_246 - (48 : Int32)) fun (x_247 : Int32) => (ap1 (if x_247 < (10000 : Int32) then x_247 else (10000 : Int32)) fun (x_248 : Int32) => (ap1 (va_up I_153 196 x_248) fun (I_250 : Nat → Int32) => (ap1 (I_250 197) fun (y_255 : Int32) => (ap1 ((y_255) + (1 : Int32)) fun (x_256 : Int32) => (ap1 (va_up I_250 197 x_256) fun (I_258 : Nat → Int32) => ((g_X6_takeNumber_x_L11 J ri rj rq n_201) I_258))))))))))))))))
set_option maxRecDepth 100000 in
theorem g_X6_takeNumber_x_L11_e {J : Nat → Int64} {ri : Nat → Nat → Int32} {rj : Nat → Nat → Int64} {rq : Nat → Nat → Option Nat} {n_201 : Nat} {I_153 : Nat → Int32} : g_X6_takeNumber_x_L11 J ri rj rq (n_201 + 1) I_153 = (ap1 (I_153 197) fun (y_207 : Int32) => (ap1 (I_153 193) fun (y_209 : Int32) => (if (y_209) ≤ (y_207) then (I_153, J, ri, rj, rq) else (ap1 (ri 192 ((y_207)).toNatClampNeg) fun (x_219 : Int32) => (ap1 (g_X6_isDigit_x x_219) fun (x_221 : Int32) => (if x_221 = (0 : Int32) then (I_153, J, ri, rj, rq) else (ap1 (I_153 196) fun (y_244 : Int32) => (ap1 ((y_244) * (10 : Int32)) fun (x_245 : Int32) => (ap1 (x_245 + x_219) fun (x_246 : Int32) => (ap1 (x_246 - (48 : Int32)) fun (x_247 : Int32) => (ap1 (if x_247 < (10000 : Int32) then x_247 else (10000 : Int32)) fun (x_248 : Int32) => (ap1 (va_up I_153 196 x_248) fun (I_250 : Nat → Int32) => (ap1 (I_250 197) fun (y_255 : Int32) => (ap1 ((y_255) + (1 : Int32)) fun (x_256 : Int32) => (ap1 (va_up I_250 197 x_256) fun (I_258 : Nat → Int32) => ((g_X6_takeNumber_x_L11 J ri rj rq n_201) I_258)))))))))))))))) := rfl
set_option maxRecDepth 100000 in
def g_X6_takeNumber_x (I : Nat → Int32) (J : Nat → Int64) (ri : Nat → Nat → Int32) (rj : Nat → Nat → Int64) (rq : Nat → Nat → Option Nat) : vM := (ap1 (va_up I 194 (18 : Int32)) fun (I_1 : Nat → Int32) => (ap1 (va_up I_1 196 (0 : Int32)) fun (I_5 : Nat → Int32) => (ap1 (I_5 197) fun (y_262 : Int32) => (g_X6_takeNumber_x_L11 J ri rj rq ((300 - (y_262).toInt).toNat + 1) I_5))))
set_option maxRecDepth 100000 in
theorem g_X6_takeNumber_x_e {I : Nat → Int32} {J : Nat → Int64} {ri : Nat → Nat → Int32} {rj : Nat → Nat → Int64} {rq : Nat → Nat → Option Nat} : g_X6_takeNumber_x I J ri rj rq = (ap1 (va_up I 194 (18 : Int32)) fun (I_1 : Nat → Int32) => (ap1 (va_up I_1 196 (0 : Int32)) fun (I_5 : Nat → Int32) => (ap1 (I_5 197) fun (y_262 : Int32) => (g_X6_takeNumber_x_L11 J ri rj rq ((300 - (y_262).toInt).toNat + 1) I_5)))) := rfl
set_option maxHeartbeats 4000000 in
set_option maxRecDepth 100000 in
theorem s_X6_takeNumber_x (l : Launch) (D : va_G) (t : pq_T) (σ : pq_S) (I : Nat → Nat → Int32) (J : Nat → Nat → Int64) (ri : Nat → Nat → Int32) (rj : Nat → Nat → Int64) (rq : Nat → Nat → Option Nat) (sz : Nat) (tg : Nat → Nat) (hSH : SH σ tg) (hG0 : GS tg σ I ri rq) (this : Nat) (hL_this : this ∈ σ.1) (hK_this : σ.2.1 this = 6) (this_tape : Nat) (hR_this_tape : σ.2.2.1 192 this = some this_tape) (hL_this_tape : this_tape ∈ σ.1) (hK_this_tape : σ.2.1 this_tape = 13) (hN_this_tape : σ.2.2.2 this_tape = 300) (hT_this_tape : tg this_tape = 192) (M : Nat) (hL_M : M ∈ σ.1) (hK_M : σ.2.1 M = 4) (hO_this : this = vo σ 6 M) (hat : (I 197 this).toInt < (I 193 this).toInt) (hdg : 48 ≤ (ri this_tape (I 197 this).toNatClampNeg).toInt ∧ (ri this_tape (I 197 this).toNatClampNeg).toInt ≤ 57) : MetV l yX6_takeNumber (wa yX6_takeNumber cX6_takeNumber 1 none) ({ frames := 1, cells := 0, slots := 0, locals := 40 }) [.ref this] D t σ (I, J, ri, rj, rq) sz 0 0 (fun (u : pq_S × pq_M) => ∃ I' : Nat → Nat → Int32, u = (σ, I', J, ri, rj, rq) ∧ GX [194, 197] tg σ I ri rj I' ri rj rq ∧ ((I 197 this).toInt + 1 ≤ (I' 197 this).toInt) ∧ g_X6_takeNumber_x (vI 4 σ M I) (vJ 4 σ M J) (vR 4 σ M ri) (vL 4 σ M rj) (vQ 4 σ M rq) = ((vI 4 σ M I'), (vJ 4 σ M J), (vR 4 σ M ri), (vL 4 σ M rj), (vQ 4 σ M rq)) ∧ FR 4 tg σ M (I, J, ri, rj, rq) (I', J, ri, rj, rq)) := by
  refine Met.ofW (cc := cX6_takeNumber) (maxL := 1) (ret := none) (by decide +kernel) rfl ?_
  intro p e s m args below meth c s₁ B hml hv
  obtain ⟨rfl, hsz, hP, hK, hD0, hN⟩ := hv
  have hx := B.exec
  have hb := B.bytes
  have hr := B.returns
  have hts := atoms_spec (ws := (wa yX6_takeNumber cX6_takeNumber 1 none)) B.pre
  have hown : s.vm.findClass RX6 = some m.cls := findClass_of_methodNamed B.named
  have hlocks := B.notSynchronized
  subst hsz
  have hD : va_D (pq_B t σ (I, J, ri, rj, rq) s.heap.size) (pq_P t σ (I, J, ri, rj, rq)) := hD0.self
  generalize hAe : pq_B t σ (I, J, ri, rj, rq) s.heap.size = A at hD ⊢
  have hA : ∀ q : Nat, s.heap.size ≤ q → A q := fun q h => by rw [← hAe]; exact Or.inr h
  have hS : va_S A s.heap s.heap [] := va_S.rf
  have hG : GX [194, 197] tg σ I ri rj I ri rj rq := ⟨hG0, fun _ _ _ => rfl, fun _ _ _ _ _ => rfl, fun _ _ _ _ _ => rfl⟩
  have hl := lv_entry ([.ref this]) (n := 1) (Nat.le_of_ble_eq_true rfl)
  rw [lg_entry_eq]
  generalize (lg_sl ([.ref this]) ++ List.replicate (1 - (lg_sl ([.ref this])).length) Slot.unset).toArray = ls at hl ⊢
  have hl : lv_has ls 1 [(0, .ref this)] := hl
  refine q_gen (fun Q hQ => ?_)
  have go : ∀ (H : Heap) (locs : List Loc) (ls : Array Slot), va_P D vwCl (pq_P t σ (I, J, ri, rj, rq)) H → va_D A (pq_P t σ (I, J, ri, rj, rq)) → va_S A s.heap H locs → lv_has ls 1 [(0, .ref this)] → W p l e ({ frames := 1, cells := 0, slots := 0, locals := 40 } : Room) s m (List.toArray ([.ref this] : List Value)) below meth c H locs 0 0 Q (F0 m 0 ls []) := by
    intro H locs ls hP hD hS hl
    have hVT : VT 4 σ tg M := vt_4 hSH hL_M hK_M
    have hFr : FR 4 tg σ M (I, J, ri, rj, rq) (I, J, ri, rj, rq) := fr_rf
    have hO_this_tape : this_tape = vrow σ 192 M := vo_k (c := 6) hO_this hR_this_tape
    obtain ⟨F, hF0⟩ : ∃ F, F = g_X6_takeNumber_x (vI 4 σ M I) (vJ 4 σ M J) (vR 4 σ M ri) (vL 4 σ M rj) (vQ 4 σ M rq) := ⟨_, rfl⟩
    have hF := hF0.trans g_X6_takeNumber_x_e
    refine lv_aload_n hx hb dX6_takeNumber_0 rfl (lv_at hl 0 rfl) ?_
    refine lv_bipush (v := 18) hx hb dX6_takeNumber_1 (by decide +kernel) ?_
    refine pp_i (v := 18) (ty := .int) (C := RX6) (T := TX6) (N := 6) hx hb hts (tw_i inlX6) tyX6 tyX6_ok nmX6 hown hK hP hD hS hL_this hK_this (by decide +kernel) rfl 2 194 (by decide +kernel) (hts _ (tw_c tw_668)) rfl (tyX6_ok 2 (by decide +kernel)) rfl rfl (Nat.le_of_ble_eq_true rfl) (ps_194 _ _ _ _ _) dX6_takeNumber_3 (fun I_1 H locs eI_1 hP hD hS => ?_)
    replace hFr := fr_I (f := 194) hFr hO_this (by decide +kernel) eI_1
    replace hF := hF.trans (ap_n (vI_st (f := 194) hO_this (by decide +kernel) eI_1))
    have hG := GX.wI hG 194 rfl eI_1 (rg_w (rg_k (18 : Int32) 18 rfl) (by decide +kernel)) (by decide +kernel)
    have tt_2 : (I_1 197 this).toInt = (I 197 this).toInt := by rw [eI_1, pq_uf _ _ _ (by decide +kernel)]
    have tt_3 : (I_1 193 this).toInt = (I 193 this).toInt := by rw [eI_1, pq_uf _ _ _ (by decide +kernel)]
    have tt_4 : (I_1 194 this).toInt = 18 := by rw [eI_1, pq_us]; rfl
    refine lv_aload_n hx hb dX6_takeNumber_6 rfl (lv_at hl 0 rfl) ?_
    refine lv_iconst (v := 0) hx hb dX6_takeNumber_7 (by decide +kernel) ?_
    refine pp_i (v := 0) (ty := .int) (C := RX6) (T := TX6) (N := 6) hx hb hts (tw_i inlX6) tyX6 tyX6_ok nmX6 hown hK hP hD hS hL_this hK_this (by decide +kernel) rfl 4 196 (by decide +kernel) (hts _ (tw_c tw_676)) rfl (tyX6_ok 4 (by decide +kernel)) rfl rfl (Nat.le_of_ble_eq_true rfl) (ps_196 _ _ _ _ _) dX6_takeNumber_8 (fun I_5 H locs eI_5 hP hD hS => ?_)
    replace hFr := fr_I (f := 196) hFr hO_this (by decide +kernel) eI_5
    replace hF := hF.trans (ap_n (vI_st (f := 196) hO_this (by decide +kernel) eI_5))
    have hG := GX.wI hG 196 rfl eI_5 (rg_w (rg_k (0 : Int32) 0 rfl) (by decide +kernel)) (by decide +kernel)
    have tt_6 : (I_5 197 this).toInt = (I_1 197 this).toInt := by rw [eI_5, pq_uf _ _ _ (by decide +kernel)]
    have tt_7 : (I_5 193 this).toInt = (I_1 193 this).toInt := by rw [eI_5, pq_uf _ _ _ (by decide +kernel)]
    have tt_8 : (I_5 194 this).toInt = (I_1 194 this).toInt := by rw [eI_5, pq_uf _ _ _ (by decide +kernel)]
    have L_202 : ∀ (n_201 : Nat) (I_153 : Nat → Nat → Int32) (H : Heap) (locs : List Loc) (ls : Array Slot), ((I 197 this).toInt ≤ (I_153 197 this).toInt ∧ (I_153 193 this).toInt = (I 193 this).toInt) → (300 - (I_153 197 this).toInt).toNat < n_201 → F = g_X6_takeNumber_x_L11 (vJ 4 σ M J) (vR 4 σ M ri) (vL 4 σ M rj) (vQ 4 σ M rq) n_201 (vI 4 σ M I_153) → FR 4 tg σ M (I, J, ri, rj, rq) (I_153, J, ri, rj, rq) → GX [194, 197] tg σ I ri rj I_153 ri rj rq → va_P D vwCl (pq_P t σ (I_153, J, ri, rj, rq)) H → va_D A (pq_P t σ (I_153, J, ri, rj, rq)) → va_S A s.heap H locs → lv_has ls 1 [(0, .ref this)] → W p l e ({ frames := 1, cells := 0, slots := 0, locals := 40 } : Room) s m (List.toArray ([.ref this] : List Value)) below meth c H locs 0 0 Q (F0 m 11 ls []) := by
      intro n_201
      induction n_201 with
      | zero => intro I_153 H locs ls hrel_205 hm_200 hF hFr hG hP hD hS hl; exact absurd hm_200 (Nat.not_lt_zero _)
      | succ n_201 ih_203 =>
        intro I_153 H locs ls hrel_205 hm_200 hF hFr hG hP hD hS hl
        replace hF := hF.trans g_X6_takeNumber_x_L11_e
        refine lv_aload_n hx hb dX6_takeNumber_11 rfl (lv_at hl 0 rfl) ?_
        refine pg_f (v := .int (I_153 197 this)) (C := RX6) (T := TX6) (N := 6) hx hb hts (tw_i inlX6) hown hK hP hL_this hK_this (by decide +kernel) rfl 5 (by decide +kernel) (hts _ (tw_c tw_662)) rfl dX6_takeNumber_12 ?_
        have h_206 : rg (I_153 197 this) 0 300 := GX.rI hG 197 rfl
        have uh_206 := h_206.1
        have vh_206 := h_206.2
        replace hF := hF.trans (ap_n (vI_e (f := 197) hO_this (by decide +kernel)))
        refine lv_aload_n hx hb dX6_takeNumber_15 rfl (lv_at hl 0 rfl) ?_
        refine pg_f (v := .int (I_153 193 this)) (C := RX6) (T := TX6) (N := 6) hx hb hts (tw_i inlX6) hown hK hP hL_this hK_this (by decide +kernel) rfl 1 (by decide +kernel) (hts _ (tw_c tw_626)) rfl dX6_takeNumber_16 ?_
        have h_208 : rg (I_153 193 this) 0 300 := GX.rI hG 193 rfl
        have uh_208 := h_208.1
        have vh_208 := h_208.2
        replace hF := hF.trans (ap_n (vI_e (f := 193) hO_this (by decide +kernel)))
        refine lv_icmp_ge (tgt := 80) hx hb dX6_takeNumber_19 (by decide +kernel) (fun c_210 => ?_) (fun c_210 => ?_)
        · replace hF := hF.trans (if_pos c_210)
          have tc_215 : (I_153 193 this).toInt ≤ (I_153 197 this).toInt := Int32.le_iff_toInt_le.mp c_210
          subst hQ
          exact W.vret hx hb hr (fun t1 ht hW => ⟨⟨(σ, I_153, J, ri, rj, rq), rfl, ⟨I_153, rfl, hG, (by omega), (hF0.symm.trans hF), hFr⟩, by rw [ht]; exact hP, va_K.moved hW.alike hK, hD⟩, hS.F ht⟩) hS.2.2 dX6_takeNumber_80
        · replace hF := hF.trans (if_neg c_210)
          have tc_216 : (I_153 197 this).toInt < (I_153 193 this).toInt := Int32.lt_iff_toInt_lt.mp (nle c_210)
          have h_217 : rg (I_153 197 this) 0 299 := rg_lt1 (nle c_210) h_206 h_208 (by decide +kernel)
          have uh_217 := h_217.1
          have vh_217 := h_217.2
          have h_218 : rg (I_153 193 this) 1 300 := rg_lt2 (nle c_210) h_206 h_208 (by decide +kernel)
          have uh_218 := h_218.1
          have vh_218 := h_218.2
          refine lv_aload_n hx hb dX6_takeNumber_22 rfl (lv_at hl 0 rfl) ?_
          refine pg_f (v := .ref this_tape) (C := RX6) (T := TX6) (N := 6) hx hb hts (tw_i inlX6) hown hK hP hL_this hK_this (by decide +kernel) rfl 0 (by decide +kernel) (hts _ (tw_c tw_165)) (pq_hv rfl hR_this_tape) dX6_takeNumber_23 ?_
          refine lv_aload_n hx hb dX6_takeNumber_26 rfl (lv_at hl 0 rfl) ?_
          refine pg_f (v := .int (I_153 197 this)) (C := RX6) (T := TX6) (N := 6) hx hb hts (tw_i inlX6) hown hK hP hL_this hK_this (by decide +kernel) rfl 5 (by decide +kernel) (hts _ (tw_c tw_662)) rfl dX6_takeNumber_27 ?_
          refine pl_i hx hb hK hP hL_this_tape hK_this_tape hN_this_tape (rg_in h_217 (by decide +kernel)) dX6_takeNumber_30 ?_
          refine lv_topi (fun x_219 ex_219 => ?_)
          replace hF := hF.trans (ap_n (vR_r hO_this_tape (by decide +kernel) ex_219))
          have tt_220 : (I_153 197 this).toInt = (I 197 this).toInt → (x_219).toInt = (ri this_tape (I 197 this).toNatClampNeg).toInt := fun q => by rw [ex_219, Int32.toInt_inj.mp q]
          refine pk_i (va_runS (As := [.int x_219]) (rest := []) ⟨hx, hb, hml, hown, hts⟩ (s_X6_isDigit_x l D t σ I_153 J ri rj rq H.size tg hSH hG.1 x_219) (va_cwS 1 hts (tw_S tw_669 tw_670 tw_153 tw_671) rfl rfl rfl cd_yX6_isDigit_1 ⟨Nat.le_of_ble_eq_true rfl, Nat.le_of_ble_eq_true rfl⟩) ⟨pq_blind, pq_pre hK hN hP hD⟩ rfl rfl hl.1 rfl (lv_room (Nat.le_of_ble_eq_true rfl)) dX6_takeNumber_31 ⟨Nat.le_of_ble_eq_true rfl, Nat.le_of_ble_eq_true rfl⟩) hD hS hA (fun x_221 σ1 μ1 H locs hw_222 hP hD hS => ?_)
          obtain ⟨hu_223, hfn_226, hr_225⟩ := hw_222
          obtain ⟨hu_223a, hu_223b⟩ := Prod.mk.inj hu_223
          rw [hu_223a, hu_223b] at hP hD
          replace hF := hF.trans (ap_n hfn_226.symm)
          have h_228 : rg x_221 0 1 := by rcases hr_225 with ⟨q, -⟩ | ⟨q, -⟩ <;> rw [q] <;> exact ⟨by decide +kernel, by decide +kernel⟩
          have uh_228 := h_228.1
          have vh_228 := h_228.2
          refine lv_if_eq (tgt := 80) hx hb dX6_takeNumber_34 (by decide +kernel) (fun c_229 => ?_) (fun c_229 => ?_)
          · replace hF := hF.trans (if_pos c_229)
            have f_237 := (hr_225.resolve_left (fun q => absurd (q.1.symm.trans c_229) (by decide +kernel))).2
            have tc_238 : (x_221).toInt = 0 := congrArg Int32.toInt c_229
            have h_239 : rg x_221 0 0 := rg_and h_228 (rg_of_eq c_229 (rg_k (0 : Int32) 0 rfl)) (by decide +kernel)
            have uh_239 := h_239.1
            have vh_239 := h_239.2
            subst hQ
            exact W.vret hx hb hr (fun t1 ht hW => ⟨⟨(σ, I_153, J, ri, rj, rq), rfl, ⟨I_153, rfl, hG, (by omega), (hF0.symm.trans hF), hFr⟩, by rw [ht]; exact hP, va_K.moved hW.alike hK, hD⟩, hS.F ht⟩) hS.2.2 dX6_takeNumber_80
          · replace hF := hF.trans (if_neg c_229)
            obtain ⟨f_240, f_241⟩ := (hr_225.resolve_right (fun q => c_229 q.1)).2
            have uf_240 := f_240.1
            have vf_240 := f_240.2
            have tc_242 : (x_221).toInt ≠ 0 := fun q => c_229 (Int32.toInt_inj.mp q)
            have h_243 : rg x_221 1 1 := rg_ne c_229 h_228 0 rfl (by decide +kernel)
            have uh_243 := h_243.1
            have vh_243 := h_243.2
            refine lv_aload_n hx hb dX6_takeNumber_37 rfl (lv_at hl 0 rfl) ?_
            refine lv_sipush (v := 10000) hx hb dX6_takeNumber_38 (by decide +kernel) ?_
            refine lv_aload_n hx hb dX6_takeNumber_41 rfl (lv_at hl 0 rfl) ?_
            refine pg_f (v := .int (I_153 196 this)) (C := RX6) (T := TX6) (N := 6) hx hb hts (tw_i inlX6) hown hK hP hL_this hK_this (by decide +kernel) rfl 4 (by decide +kernel) (hts _ (tw_c tw_676)) rfl dX6_takeNumber_42 ?_
            replace hF := hF.trans (ap_n (vI_e (f := 196) hO_this (by decide +kernel)))
            refine lv_bipush (v := 10) hx hb dX6_takeNumber_45 (by decide +kernel) ?_
            refine lv_imul hx hb dX6_takeNumber_47 ?_
            refine lv_topi (fun x_245 ex_245 => ?_)
            replace hF := hF.trans (ap_n ex_245)
            refine lv_aload_n hx hb dX6_takeNumber_48 rfl (lv_at hl 0 rfl) ?_
            refine pg_f (v := .ref this_tape) (C := RX6) (T := TX6) (N := 6) hx hb hts (tw_i inlX6) hown hK hP hL_this hK_this (by decide +kernel) rfl 0 (by decide +kernel) (hts _ (tw_c tw_165)) (pq_hv rfl hR_this_tape) dX6_takeNumber_49 ?_
            refine lv_aload_n hx hb dX6_takeNumber_52 rfl (lv_at hl 0 rfl) ?_
            refine pg_f (v := .int (I_153 197 this)) (C := RX6) (T := TX6) (N := 6) hx hb hts (tw_i inlX6) hown hK hP hL_this hK_this (by decide +kernel) rfl 5 (by decide +kernel) (hts _ (tw_c tw_662)) rfl dX6_takeNumber_53 ?_
            refine pl_i hx hb hK hP hL_this_tape hK_this_tape hN_this_tape (rg_in h_217 (by decide +kernel)) dX6_takeNumber_56 ?_
            refine lv_tov x_219 ex_219.symm ?_
            refine lv_iadd hx hb dX6_takeNumber_57 ?_
            refine lv_topi (fun x_246 ex_246 => ?_)
            replace hF := hF.trans (ap_n ex_246)
            refine lv_bipush (v := 48) hx hb dX6_takeNumber_58 (by decide +kernel) ?_
            refine lv_isub hx hb dX6_takeNumber_60 ?_
            refine lv_topi (fun x_247 ex_247 => ?_)
            replace hF := hF.trans (ap_n ex_247)
            refine va_mmin hx hb (hml.trans hl.1.symm) hown (hts _ (tw_c tw_677)) (hts _ (tw_c tw_467)) (hts _ (tw_c tw_276)) (hts _ (tw_c tw_468)) (Nat.le_of_ble_eq_true rfl) (Nat.le_of_ble_eq_true rfl) (Nat.zero_le _) (Nat.zero_le _) dX6_takeNumber_61 ?_
            refine lv_topi (fun x_248 ex_248 => ?_)
            replace hF := hF.trans (ap_n ex_248)
            have h_249 : rg x_248 (-2147483648) 10000 := rg_of_eq ex_248 (rg_min2 (rg_k (10000 : Int32) 10000 rfl) (rg_full _) (by decide +kernel))
            have uh_249 := h_249.1
            have vh_249 := h_249.2
            have tx_248 : (x_248).toInt ≤ 10000 ∧ (x_248).toInt ≤ (x_247).toInt := by rw [ex_248]; exact min_le _ _
            refine pp_i (v := x_248) (ty := .int) (C := RX6) (T := TX6) (N := 6) hx hb hts (tw_i inlX6) tyX6 tyX6_ok nmX6 hown hK hP hD hS hL_this hK_this (by decide +kernel) rfl 4 196 (by decide +kernel) (hts _ (tw_c tw_676)) rfl (tyX6_ok 4 (by decide +kernel)) rfl rfl (Nat.le_of_ble_eq_true rfl) (ps_196 _ _ _ _ _) dX6_takeNumber_64 (fun I_250 H locs eI_250 hP hD hS => ?_)
            replace hFr := fr_I (f := 196) hFr hO_this (by decide +kernel) eI_250
            replace hF := hF.trans (ap_n (vI_st (f := 196) hO_this (by decide +kernel) eI_250))
            have hG := GX.wI hG 196 rfl eI_250 (rg_w h_249 (by decide +kernel)) (by decide +kernel)
            have tt_251 : (I_250 197 this).toInt = (I_153 197 this).toInt := by rw [eI_250, pq_uf _ _ _ (by decide +kernel)]
            have tt_252 : (I_250 193 this).toInt = (I_153 193 this).toInt := by rw [eI_250, pq_uf _ _ _ (by decide +kernel)]
            have tt_253 : (I_250 194 this).toInt = (I_153 194 this).toInt := by rw [eI_250, pq_uf _ _ _ (by decide +kernel)]
            refine lv_aload_n hx hb dX6_takeNumber_67 rfl (lv_at hl 0 rfl) ?_
            refine lv_dup hx hb dX6_takeNumber_68 rfl ?_
            refine pg_f (v := .int (I_250 197 this)) (C := RX6) (T := TX6) (N := 6) hx hb hts (tw_i inlX6) hown hK hP hL_this hK_this (by decide +kernel) rfl 5 (by decide +kernel) (hts _ (tw_c tw_662)) rfl dX6_takeNumber_69 ?_
            have h_254 : rg (I_250 197 this) 0 299 := (by rw [eI_250, pq_uf _ _ _ (by decide +kernel)]; exact h_217)
            have uh_254 := h_254.1
            have vh_254 := h_254.2
            replace hF := hF.trans (ap_n (vI_e (f := 197) hO_this (by decide +kernel)))
            refine lv_iconst (v := 1) hx hb dX6_takeNumber_72 (by decide +kernel) ?_
            refine lv_iadd hx hb dX6_takeNumber_73 ?_
            refine lv_topi (fun x_256 ex_256 => ?_)
            replace hF := hF.trans (ap_n ex_256)
            have h_257 : rg x_256 1 300 := rg_of_eq ex_256 (rg_add h_254 (rg_k (1 : Int32) 1 rfl) (by decide +kernel))
            have uh_257 := h_257.1
            have vh_257 := h_257.2
            have tx_256 : (x_256).toInt = (I_250 197 this).toInt + 1 := by rw [ex_256]; exact i_add_rg (a2 := (I_250 197 this).toInt) (b2 := 1) rfl rfl h_254 (rg_k (1 : Int32) 1 rfl) (by decide +kernel)
            refine pp_i (v := x_256) (ty := .int) (C := RX6) (T := TX6) (N := 6) hx hb hts (tw_i inlX6) tyX6 tyX6_ok nmX6 hown hK hP hD hS hL_this hK_this (by decide +kernel) rfl 5 197 (by decide +kernel) (hts _ (tw_c tw_662)) rfl (tyX6_ok 5 (by decide +kernel)) rfl rfl (Nat.le_of_ble_eq_true rfl) (ps_197 _ _ _ _ _) dX6_takeNumber_74 (fun I_258 H locs eI_258 hP hD hS => ?_)
            replace hFr := fr_I (f := 197) hFr hO_this (by decide +kernel) eI_258
            replace hF := hF.trans (ap_n (vI_st (f := 197) hO_this (by decide +kernel) eI_258))
            have hG := GX.wI hG 197 rfl eI_258 (rg_w h_257 (by decide +kernel)) (by decide +kernel)
            have tt_259 : (I_258 197 this).toInt = (x_256).toInt := by rw [eI_258, pq_us]
            have tt_260 : (I_258 193 this).toInt = (I_250 193 this).toInt := by rw [eI_258, pq_uf _ _ _ (by decide +kernel)]
            have tt_261 : (I_258 194 this).toInt = (I_250 194 this).toInt := by rw [eI_258, pq_uf _ _ _ (by decide +kernel)]
            refine lv_goto (tgt := 11) hx hb dX6_takeNumber_77 (by decide +kernel) ?_
            exact ih_203 I_258 _ _ _ (by omega) (ms_fu_iadd hm_200 (by rw [eI_258]; exact pq_us _ _ _ _) ex_256 ((congrFun (show I_250 197 = I_153 197 from by rw [eI_250]; exact pq_uf _ _ _ (by decide +kernel)) this).trans rfl) (kk := 1) rfl (by decide +kernel) h_254 (by decide +kernel) (by decide +kernel)) hF hFr hG hP hD hS (lv_sub hl [0] rfl)
    replace hF := hF.trans (ap_n (vI_e (f := 197) hO_this (by decide +kernel)))
    exact L_202 _ I_5 _ _ _ (by omega) (Nat.lt_succ_self _) hF hFr hG hP hD hS (lv_sub hl [0] rfl)
  exact go _ _ _ hP hD hS hl

set_option maxRecDepth 100000 in
def g_X6_takeLonger_x (I : Nat → Int32) (J : Nat → Int64) (ri : Nat → Nat → Int32) (rj : Nat → Nat → Int64) (rq : Nat → Nat → Option Nat) : vM := (ap1 (I 197) fun (y_2 : Int32) => (ap1 (I 193) fun (y_4 : Int32) => (if (y_4) ≤ (y_2) then (I, J, ri, rj, rq) else (ap1 (ri 192 ((y_2)).toNatClampNeg) fun (x_16 : Int32) => (if x_16 = (61 : Int32) then (ap1 (I 194) fun (y_26 : Int32) => (if (y_26) = (19 : Int32) then (ap1 (va_up I 194 (20 : Int32)) fun (I_38 : Nat → Int32) => (ap1 (I_38 197) fun (y_43 : Int32) => (ap1 ((y_43) + (1 : Int32)) fun (x_44 : Int32) => (ap1 (va_up I_38 197 x_44) fun (I_46 : Nat → Int32) => (I_46, J, ri, rj, rq))))) else (if (y_26) = (21 : Int32) then (ap1 (va_up I 194 (22 : Int32)) fun (I_62 : Nat → Int32) => (ap1 (I_62 197) fun (y_67 : Int32) => (ap1 ((y_67) + (1 : Int32)) fun (x_68 : Int32) => (ap1 (va_up I_62 197 x_68) fun (I_70 : Nat → Int32) => (I_70, J, ri, rj, rq))))) else (I, J, ri, rj, rq)))) else (I, J, ri, rj, rq))))))
set_option maxRecDepth 100000 in
theorem g_X6_takeLonger_x_e {I : Nat → Int32} {J : Nat → Int64} {ri : Nat → Nat → Int32} {rj : Nat → Nat → Int64} {rq : Nat → Nat → Option Nat} : g_X6_takeLonger_x I J ri rj rq = (ap1 (I 197) fun (y_2 : Int32) => (ap1 (I 193) fun (y_4 : Int32) => (if (y_4) ≤ (y_2) then (I, J, ri, rj, rq) else (ap1 (ri 192 ((y_2)).toNatClampNeg) fun (x_16 : Int32) => (if x_16 = (61 : Int32) then (ap1 (I 194) fun (y_26 : Int32) => (if (y_26) = (19 : Int32) then (ap1 (va_up I 194 (20 : Int32)) fun (I_38 : Nat → Int32) => (ap1 (I_38 197) fun (y_43 : Int32) => (ap1 ((y_43) + (1 : Int32)) fun (x_44 : Int32) => (ap1 (va_up I_38 197 x_44) fun (I_46 : Nat → Int32) => (I_46, J, ri, rj, rq))))) else (if (y_26) = (21 : Int32) then (ap1 (va_up I 194 (22 : Int32)) fun (I_62 : Nat → Int32) => (ap1 (I_62 197) fun (y_67 : Int32) => (ap1 ((y_67) + (1 : Int32)) fun (x_68 : Int32) => (ap1 (va_up I_62 197 x_68) fun (I_70 : Nat → Int32) => (I_70, J, ri, rj, rq))))) else (I, J, ri, rj, rq)))) else (I, J, ri, rj, rq)))))) := rfl
set_option maxHeartbeats 4000000 in
set_option maxRecDepth 100000 in
theorem s_X6_takeLonger_x (l : Launch) (D : va_G) (t : pq_T) (σ : pq_S) (I : Nat → Nat → Int32) (J : Nat → Nat → Int64) (ri : Nat → Nat → Int32) (rj : Nat → Nat → Int64) (rq : Nat → Nat → Option Nat) (sz : Nat) (tg : Nat → Nat) (hSH : SH σ tg) (hG0 : GS tg σ I ri rq) (this : Nat) (hL_this : this ∈ σ.1) (hK_this : σ.2.1 this = 6) (M : Nat) (hL_M : M ∈ σ.1) (hK_M : σ.2.1 M = 4) (hO_this : this = vo σ 6 M) : MetV l yX6_takeLonger (wa yX6_takeLonger cX6_takeLonger 2 none) ({ frames := 0, cells := 0, slots := 0, locals := 0 }) [.ref this] D t σ (I, J, ri, rj, rq) sz 0 0 (fun (u : pq_S × pq_M) => ∃ I' : Nat → Nat → Int32, u = (σ, I', J, ri, rj, rq) ∧ GX [194, 197] tg σ I ri rj I' ri rj rq ∧ ((I 197 this).toInt ≤ (I' 197 this).toInt) ∧ g_X6_takeLonger_x (vI 4 σ M I) (vJ 4 σ M J) (vR 4 σ M ri) (vL 4 σ M rj) (vQ 4 σ M rq) = ((vI 4 σ M I'), (vJ 4 σ M J), (vR 4 σ M ri), (vL 4 σ M rj), (vQ 4 σ M rq)) ∧ FR 4 tg σ M (I, J, ri, rj, rq) (I', J, ri, rj, rq)) := by
  refine Met.ofW (cc := cX6_takeLonger) (maxL := 2) (ret := none) (by decide +kernel) rfl ?_
  intro p e s m args below meth c s₁ B hml hv
  obtain ⟨rfl, hsz, hP, hK, hD0, hN⟩ := hv
  have hx := B.exec
  have hb := B.bytes
  have hr := B.returns
  have hts := atoms_spec (ws := (wa yX6_takeLonger cX6_takeLonger 2 none)) B.pre
  have hown : s.vm.findClass RX6 = some m.cls := findClass_of_methodNamed B.named
  have hlocks := B.notSynchronized
  subst hsz
  have hD : va_D (pq_B t σ (I, J, ri, rj, rq) s.heap.size) (pq_P t σ (I, J, ri, rj, rq)) := hD0.self
  generalize hAe : pq_B t σ (I, J, ri, rj, rq) s.heap.size = A at hD ⊢
  have hA : ∀ q : Nat, s.heap.size ≤ q → A q := fun q h => by rw [← hAe]; exact Or.inr h
  have hS : va_S A s.heap s.heap [] := va_S.rf
  have hG : GX [194, 197] tg σ I ri rj I ri rj rq := ⟨hG0, fun _ _ _ => rfl, fun _ _ _ _ _ => rfl, fun _ _ _ _ _ => rfl⟩
  have hl := lv_entry ([.ref this]) (n := 2) (Nat.le_of_ble_eq_true rfl)
  rw [lg_entry_eq]
  generalize (lg_sl ([.ref this]) ++ List.replicate (2 - (lg_sl ([.ref this])).length) Slot.unset).toArray = ls at hl ⊢
  have hl : lv_has ls 2 [(0, .ref this)] := hl
  refine q_gen (fun Q hQ => ?_)
  have go : ∀ (H : Heap) (locs : List Loc) (ls : Array Slot), va_P D vwCl (pq_P t σ (I, J, ri, rj, rq)) H → va_D A (pq_P t σ (I, J, ri, rj, rq)) → va_S A s.heap H locs → lv_has ls 2 [(0, .ref this)] → W p l e ({ frames := 0, cells := 0, slots := 0, locals := 0 } : Room) s m (List.toArray ([.ref this] : List Value)) below meth c H locs 0 0 Q (F0 m 0 ls []) := by
    intro H locs ls hP hD hS hl
    have hVT : VT 4 σ tg M := vt_4 hSH hL_M hK_M
    have hFr : FR 4 tg σ M (I, J, ri, rj, rq) (I, J, ri, rj, rq) := fr_rf
    obtain ⟨F, hF0⟩ : ∃ F, F = g_X6_takeLonger_x (vI 4 σ M I) (vJ 4 σ M J) (vR 4 σ M ri) (vL 4 σ M rj) (vQ 4 σ M rq) := ⟨_, rfl⟩
    have hF := hF0.trans g_X6_takeLonger_x_e
    refine lv_aload_n hx hb dX6_takeLonger_0 rfl (lv_at hl 0 rfl) ?_
    refine pg_f (v := .int (I 197 this)) (C := RX6) (T := TX6) (N := 6) hx hb hts (tw_i inlX6) hown hK hP hL_this hK_this (by decide +kernel) rfl 5 (by decide +kernel) (hts _ (tw_c tw_662)) rfl dX6_takeLonger_1 ?_
    have h_1 : rg (I 197 this) 0 300 := GX.rI hG 197 rfl
    have uh_1 := h_1.1
    have vh_1 := h_1.2
    replace hF := hF.trans (ap_n (vI_e (f := 197) hO_this (by decide +kernel)))
    refine lv_aload_n hx hb dX6_takeLonger_4 rfl (lv_at hl 0 rfl) ?_
    refine pg_f (v := .int (I 193 this)) (C := RX6) (T := TX6) (N := 6) hx hb hts (tw_i inlX6) hown hK hP hL_this hK_this (by decide +kernel) rfl 1 (by decide +kernel) (hts _ (tw_c tw_626)) rfl dX6_takeLonger_5 ?_
    have h_3 : rg (I 193 this) 0 300 := GX.rI hG 193 rfl
    have uh_3 := h_3.1
    have vh_3 := h_3.2
    replace hF := hF.trans (ap_n (vI_e (f := 193) hO_this (by decide +kernel)))
    refine lv_icmp_ge (tgt := 29) hx hb dX6_takeLonger_8 (by decide +kernel) (fun c_5 => ?_) (fun c_5 => ?_)
    · replace hF := hF.trans (if_pos c_5)
      have tc_10 : (I 193 this).toInt ≤ (I 197 this).toInt := Int32.le_iff_toInt_le.mp c_5
      refine lv_iconst (v := 0) hx hb dX6_takeLonger_29 (by decide +kernel) ?_
      refine lv_istore_n (lv' := [(1, .int 0), (0, .ref this)]) hx hb dX6_takeLonger_30 rfl hl (by decide +kernel) rfl (fun ls hl => ?_)
      refine lv_iload_n hx hb dX6_takeLonger_31 rfl (lv_at hl 0 rfl) ?_
      refine lv_if_eq (tgt := 83) hx hb dX6_takeLonger_32 (by decide +kernel) (fun c_11 => ?_) (fun c_11 => absurd c_11 (by decide +kernel))
      subst hQ
      exact W.vret hx hb hr (fun t1 ht hW => ⟨⟨(σ, I, J, ri, rj, rq), rfl, ⟨I, rfl, hG, (by omega), (hF0.symm.trans hF), hFr⟩, by rw [ht]; exact hP, va_K.moved hW.alike hK, hD⟩, hS.F ht⟩) hS.2.2 dX6_takeLonger_83
    · replace hF := hF.trans (if_neg c_5)
      have tc_12 : (I 197 this).toInt < (I 193 this).toInt := Int32.lt_iff_toInt_lt.mp (nle c_5)
      have h_13 : rg (I 197 this) 0 299 := rg_lt1 (nle c_5) h_1 h_3 (by decide +kernel)
      have uh_13 := h_13.1
      have vh_13 := h_13.2
      have h_14 : rg (I 193 this) 1 300 := rg_lt2 (nle c_5) h_1 h_3 (by decide +kernel)
      have uh_14 := h_14.1
      have vh_14 := h_14.2
      refine lv_aload_n hx hb dX6_takeLonger_11 rfl (lv_at hl 0 rfl) ?_
      obtain ⟨w_15, hR_w_15, hL_w_15, hK_w_15, hN_w_15, hT_w_15⟩ := sh_a hSH 192 (ci := 6) (kd := 13) (len := 300) rfl (by decide +kernel) hL_this hK_this
      have hO_w_15 : w_15 = vrow σ 192 M := vo_k (c := 6) hO_this hR_w_15
      refine pg_f (v := .ref w_15) (C := RX6) (T := TX6) (N := 6) hx hb hts (tw_i inlX6) hown hK hP hL_this hK_this (by decide +kernel) rfl 0 (by decide +kernel) (hts _ (tw_c tw_165)) (pq_hv rfl hR_w_15) dX6_takeLonger_12 ?_
      refine lv_aload_n hx hb dX6_takeLonger_15 rfl (lv_at hl 0 rfl) ?_
      refine pg_f (v := .int (I 197 this)) (C := RX6) (T := TX6) (N := 6) hx hb hts (tw_i inlX6) hown hK hP hL_this hK_this (by decide +kernel) rfl 5 (by decide +kernel) (hts _ (tw_c tw_662)) rfl dX6_takeLonger_16 ?_
      refine pl_i hx hb hK hP hL_w_15 hK_w_15 hN_w_15 (rg_in h_13 (by decide +kernel)) dX6_takeLonger_19 ?_
      refine lv_topi (fun x_16 ex_16 => ?_)
      replace hF := hF.trans (ap_n (vR_r hO_w_15 (by decide +kernel) ex_16))
      refine lv_bipush (v := 61) hx hb dX6_takeLonger_20 (by decide +kernel) ?_
      refine lv_icmp_ne (tgt := 29) hx hb dX6_takeLonger_22 (by decide +kernel) (fun c_17 => ?_) (fun c_17 => ?_)
      · replace hF := hF.trans (if_neg c_17)
        have tc_21 : (x_16).toInt ≠ 61 := fun q => c_17 (Int32.toInt_inj.mp q)
        refine lv_iconst (v := 0) hx hb dX6_takeLonger_29 (by decide +kernel) ?_
        refine lv_istore_n (lv' := [(1, .int 0), (0, .ref this)]) hx hb dX6_takeLonger_30 rfl hl (by decide +kernel) rfl (fun ls hl => ?_)
        refine lv_iload_n hx hb dX6_takeLonger_31 rfl (lv_at hl 0 rfl) ?_
        refine lv_if_eq (tgt := 83) hx hb dX6_takeLonger_32 (by decide +kernel) (fun c_22 => ?_) (fun c_22 => absurd c_22 (by decide +kernel))
        subst hQ
        exact W.vret hx hb hr (fun t1 ht hW => ⟨⟨(σ, I, J, ri, rj, rq), rfl, ⟨I, rfl, hG, (by omega), (hF0.symm.trans hF), hFr⟩, by rw [ht]; exact hP, va_K.moved hW.alike hK, hD⟩, hS.F ht⟩) hS.2.2 dX6_takeLonger_83
      · replace hF := hF.trans (if_pos c_17)
        have tc_23 : (x_16).toInt = 61 := congrArg Int32.toInt c_17
        have h_24 : rg x_16 61 61 := rg_and (rg_full _) (rg_of_eq c_17 (rg_k (61 : Int32) 61 rfl)) (by decide +kernel)
        have uh_24 := h_24.1
        have vh_24 := h_24.2
        refine lv_iconst (v := 1) hx hb dX6_takeLonger_25 (by decide +kernel) ?_
        refine lv_goto (tgt := 30) hx hb dX6_takeLonger_26 (by decide +kernel) ?_
        refine lv_istore_n (lv' := [(1, .int 1), (0, .ref this)]) hx hb dX6_takeLonger_30 rfl hl (by decide +kernel) rfl (fun ls hl => ?_)
        refine lv_iload_n hx hb dX6_takeLonger_31 rfl (lv_at hl 0 rfl) ?_
        refine lv_if_eq (tgt := 83) hx hb dX6_takeLonger_32 (by decide +kernel) (fun c_25 => absurd c_25 (by decide +kernel)) (fun c_25 => ?_)
        refine lv_aload_n hx hb dX6_takeLonger_35 rfl (lv_at hl 1 rfl) ?_
        refine pg_f (v := .int (I 194 this)) (C := RX6) (T := TX6) (N := 6) hx hb hts (tw_i inlX6) hown hK hP hL_this hK_this (by decide +kernel) rfl 2 (by decide +kernel) (hts _ (tw_c tw_668)) rfl dX6_takeLonger_36 ?_
        replace hF := hF.trans (ap_n (vI_e (f := 194) hO_this (by decide +kernel)))
        refine lv_bipush (v := 19) hx hb dX6_takeLonger_39 (by decide +kernel) ?_
        refine lv_icmp_eq (tgt := 53) hx hb dX6_takeLonger_41 (by decide +kernel) (fun c_27 => ?_) (fun c_27 => ?_)
        · replace hF := hF.trans (if_pos c_27)
          have tc_31 : (I 194 this).toInt = 19 := congrArg Int32.toInt c_27
          have h_32 : rg (I 194 this) 19 19 := rg_and (rg_full _) (rg_of_eq c_27 (rg_k (19 : Int32) 19 rfl)) (by decide +kernel)
          have uh_32 := h_32.1
          have vh_32 := h_32.2
          refine lv_aload_n hx hb dX6_takeLonger_53 rfl (lv_at hl 1 rfl) ?_
          refine lv_aload_n hx hb dX6_takeLonger_54 rfl (lv_at hl 1 rfl) ?_
          refine pg_f (v := .int (I 194 this)) (C := RX6) (T := TX6) (N := 6) hx hb hts (tw_i inlX6) hown hK hP hL_this hK_this (by decide +kernel) rfl 2 (by decide +kernel) (hts _ (tw_c tw_668)) rfl dX6_takeLonger_55 ?_
          refine lv_bipush (v := 19) hx hb dX6_takeLonger_58 (by decide +kernel) ?_
          refine lv_icmp_ne (tgt := 68) hx hb dX6_takeLonger_60 (by decide +kernel) (fun c_33 => ?_) (fun c_33 => ?_)
          · have tc_36 : (I 194 this).toInt ≠ 19 := fun q => c_33 (Int32.toInt_inj.mp q)
            exact (rg_empty (rg_ne c_33 h_32 19 rfl (lo := 20) (hi := 18) (by decide +kernel)) (by decide +kernel)).elim
          · have tc_37 : (I 194 this).toInt = 19 := congrArg Int32.toInt c_33
            refine lv_bipush (v := 20) hx hb dX6_takeLonger_63 (by decide +kernel) ?_
            refine lv_goto (tgt := 70) hx hb dX6_takeLonger_65 (by decide +kernel) ?_
            refine pp_i (v := 20) (ty := .int) (C := RX6) (T := TX6) (N := 6) hx hb hts (tw_i inlX6) tyX6 tyX6_ok nmX6 hown hK hP hD hS hL_this hK_this (by decide +kernel) rfl 2 194 (by decide +kernel) (hts _ (tw_c tw_668)) rfl (tyX6_ok 2 (by decide +kernel)) rfl rfl (Nat.le_of_ble_eq_true rfl) (ps_194 _ _ _ _ _) dX6_takeLonger_70 (fun I_38 H locs eI_38 hP hD hS => ?_)
            replace hFr := fr_I (f := 194) hFr hO_this (by decide +kernel) eI_38
            replace hF := hF.trans (ap_n (vI_st (f := 194) hO_this (by decide +kernel) eI_38))
            have hG := GX.wI hG 194 rfl eI_38 (rg_w (rg_k (20 : Int32) 20 rfl) (by decide +kernel)) (by decide +kernel)
            have tt_39 : (I_38 197 this).toInt = (I 197 this).toInt := by rw [eI_38, pq_uf _ _ _ (by decide +kernel)]
            have tt_40 : (I_38 193 this).toInt = (I 193 this).toInt := by rw [eI_38, pq_uf _ _ _ (by decide +kernel)]
            have tt_41 : (I_38 194 this).toInt = 20 := by rw [eI_38, pq_us]; rfl
            refine lv_aload_n hx hb dX6_takeLonger_73 rfl (lv_at hl 1 rfl) ?_
            refine lv_dup hx hb dX6_takeLonger_74 rfl ?_
            refine pg_f (v := .int (I_38 197 this)) (C := RX6) (T := TX6) (N := 6) hx hb hts (tw_i inlX6) hown hK hP hL_this hK_this (by decide +kernel) rfl 5 (by decide +kernel) (hts _ (tw_c tw_662)) rfl dX6_takeLonger_75 ?_
            have h_42 : rg (I_38 197 this) 0 299 := (by rw [eI_38, pq_uf _ _ _ (by decide +kernel)]; exact h_13)
            have uh_42 := h_42.1
            have vh_42 := h_42.2
            replace hF := hF.trans (ap_n (vI_e (f := 197) hO_this (by decide +kernel)))
            refine lv_iconst (v := 1) hx hb dX6_takeLonger_78 (by decide +kernel) ?_
            refine lv_iadd hx hb dX6_takeLonger_79 ?_
            refine lv_topi (fun x_44 ex_44 => ?_)
            replace hF := hF.trans (ap_n ex_44)
            have h_45 : rg x_44 1 300 := rg_of_eq ex_44 (rg_add h_42 (rg_k (1 : Int32) 1 rfl) (by decide +kernel))
            have uh_45 := h_45.1
            have vh_45 := h_45.2
            have tx_44 : (x_44).toInt = (I_38 197 this).toInt + 1 := by rw [ex_44]; exact i_add_rg (a2 := (I_38 197 this).toInt) (b2 := 1) rfl rfl h_42 (rg_k (1 : Int32) 1 rfl) (by decide +kernel)
            refine pp_i (v := x_44) (ty := .int) (C := RX6) (T := TX6) (N := 6) hx hb hts (tw_i inlX6) tyX6 tyX6_ok nmX6 hown hK hP hD hS hL_this hK_this (by decide +kernel) rfl 5 197 (by decide +kernel) (hts _ (tw_c tw_662)) rfl (tyX6_ok 5 (by decide +kernel)) rfl rfl (Nat.le_of_ble_eq_true rfl) (ps_197 _ _ _ _ _) dX6_takeLonger_80 (fun I_46 H locs eI_46 hP hD hS => ?_)
            replace hFr := fr_I (f := 197) hFr hO_this (by decide +kernel) eI_46
            replace hF := hF.trans (ap_n (vI_st (f := 197) hO_this (by decide +kernel) eI_46))
            have hG := GX.wI hG 197 rfl eI_46 (rg_w h_45 (by decide +kernel)) (by decide +kernel)
            have tt_47 : (I_46 197 this).toInt = (x_44).toInt := by rw [eI_46, pq_us]
            have tt_48 : (I_46 193 this).toInt = (I_38 193 this).toInt := by rw [eI_46, pq_uf _ _ _ (by decide +kernel)]
            have tt_49 : (I_46 194 this).toInt = (I_38 194 this).toInt := by rw [eI_46, pq_uf _ _ _ (by decide +kernel)]
            subst hQ
            exact W.vret hx hb hr (fun t1 ht hW => ⟨⟨(σ, I_46, J, ri, rj, rq), rfl, ⟨I_46, rfl, hG, (by omega), (hF0.symm.trans hF), hFr⟩, by rw [ht]; exact hP, va_K.moved hW.alike hK, hD⟩, hS.F ht⟩) hS.2.2 dX6_takeLonger_83
        · replace hF := hF.trans (if_neg c_27)
          have tc_50 : (I 194 this).toInt ≠ 19 := fun q => c_27 (Int32.toInt_inj.mp q)
          refine lv_aload_n hx hb dX6_takeLonger_44 rfl (lv_at hl 1 rfl) ?_
          refine pg_f (v := .int (I 194 this)) (C := RX6) (T := TX6) (N := 6) hx hb hts (tw_i inlX6) hown hK hP hL_this hK_this (by decide +kernel) rfl 2 (by decide +kernel) (hts _ (tw_c tw_668)) rfl dX6_takeLonger_45 ?_
          refine lv_bipush (v := 21) hx hb dX6_takeLonger_48 (by decide +kernel) ?_
          refine lv_icmp_ne (tgt := 83) hx hb dX6_takeLonger_50 (by decide +kernel) (fun c_51 => ?_) (fun c_51 => ?_)
          · replace hF := hF.trans (if_neg c_51)
            have tc_55 : (I 194 this).toInt ≠ 21 := fun q => c_51 (Int32.toInt_inj.mp q)
            subst hQ
            exact W.vret hx hb hr (fun t1 ht hW => ⟨⟨(σ, I, J, ri, rj, rq), rfl, ⟨I, rfl, hG, (by omega), (hF0.symm.trans hF), hFr⟩, by rw [ht]; exact hP, va_K.moved hW.alike hK, hD⟩, hS.F ht⟩) hS.2.2 dX6_takeLonger_83
          · replace hF := hF.trans (if_pos c_51)
            have tc_56 : (I 194 this).toInt = 21 := congrArg Int32.toInt c_51
            have h_57 : rg (I 194 this) 21 21 := rg_and (rg_full _) (rg_of_eq c_51 (rg_k (21 : Int32) 21 rfl)) (by decide +kernel)
            have uh_57 := h_57.1
            have vh_57 := h_57.2
            refine lv_aload_n hx hb dX6_takeLonger_53 rfl (lv_at hl 1 rfl) ?_
            refine lv_aload_n hx hb dX6_takeLonger_54 rfl (lv_at hl 1 rfl) ?_
            refine pg_f (v := .int (I 194 this)) (C := RX6) (T := TX6) (N := 6) hx hb hts (tw_i inlX6) hown hK hP hL_this hK_this (by decide +kernel) rfl 2 (by decide +kernel) (hts _ (tw_c tw_668)) rfl dX6_takeLonger_55 ?_
            refine lv_bipush (v := 19) hx hb dX6_takeLonger_58 (by decide +kernel) ?_
            refine lv_icmp_ne (tgt := 68) hx hb dX6_takeLonger_60 (by decide +kernel) (fun c_58 => ?_) (fun c_58 => ?_)
            · have tc_61 : (I 194 this).toInt ≠ 19 := fun q => c_58 (Int32.toInt_inj.mp q)
              refine lv_bipush (v := 22) hx hb dX6_takeLonger_68 (by decide +kernel) ?_
              refine pp_i (v := 22) (ty := .int) (C := RX6) (T := TX6) (N := 6) hx hb hts (tw_i inlX6) tyX6 tyX6_ok nmX6 hown hK hP hD hS hL_this hK_this (by decide +kernel) rfl 2 194 (by decide +kernel) (hts _ (tw_c tw_668)) rfl (tyX6_ok 2 (by decide +kernel)) rfl rfl (Nat.le_of_ble_eq_true rfl) (ps_194 _ _ _ _ _) dX6_takeLonger_70 (fun I_62 H locs eI_62 hP hD hS => ?_)
              replace hFr := fr_I (f := 194) hFr hO_this (by decide +kernel) eI_62
              replace hF := hF.trans (ap_n (vI_st (f := 194) hO_this (by decide +kernel) eI_62))
              have hG := GX.wI hG 194 rfl eI_62 (rg_w (rg_k (22 : Int32) 22 rfl) (by decide +kernel)) (by decide +kernel)
              have tt_63 : (I_62 197 this).toInt = (I 197 this).toInt := by rw [eI_62, pq_uf _ _ _ (by decide +kernel)]
              have tt_64 : (I_62 193 this).toInt = (I 193 this).toInt := by rw [eI_62, pq_uf _ _ _ (by decide +kernel)]
              have tt_65 : (I_62 194 this).toInt = 22 := by rw [eI_62, pq_us]; rfl
              refine lv_aload_n hx hb dX6_takeLonger_73 rfl (lv_at hl 1 rfl) ?_
              refine lv_dup hx hb dX6_takeLonger_74 rfl ?_
              refine pg_f (v := .int (I_62 197 this)) (C := RX6) (T := TX6) (N := 6) hx hb hts (tw_i inlX6) hown hK hP hL_this hK_this (by decide +kernel) rfl 5 (by decide +kernel) (hts _ (tw_c tw_662)) rfl dX6_takeLonger_75 ?_
              have h_66 : rg (I_62 197 this) 0 299 := (by rw [eI_62, pq_uf _ _ _ (by decide +kernel)]; exact h_13)
              have uh_66 := h_66.1
              have vh_66 := h_66.2
              replace hF := hF.trans (ap_n (vI_e (f := 197) hO_this (by decide +kernel)))
              refine lv_iconst (v := 1) hx hb dX6_takeLonger_78 (by decide +kernel) ?_
              refine lv_iadd hx hb dX6_takeLonger_79 ?_
              refine lv_topi (fun x_68 ex_68 => ?_)
              replace hF := hF.trans (ap_n ex_68)
              have h_69 : rg x_68 1 300 := rg_of_eq ex_68 (rg_add h_66 (rg_k (1 : Int32) 1 rfl) (by decide +kernel))
              have uh_69 := h_69.1
              have vh_69 := h_69.2
              have tx_68 : (x_68).toInt = (I_62 197 this).toInt + 1 := by rw [ex_68]; exact i_add_rg (a2 := (I_62 197 this).toInt) (b2 := 1) rfl rfl h_66 (rg_k (1 : Int32) 1 rfl) (by decide +kernel)
              refine pp_i (v := x_68) (ty := .int) (C := RX6) (T := TX6) (N := 6) hx hb hts (tw_i inlX6) tyX6 tyX6_ok nmX6 hown hK hP hD hS hL_this hK_this (by decide +kernel) rfl 5 197 (by decide +kernel) (hts _ (tw_c tw_662)) rfl (tyX6_ok 5 (by decide +kernel)) rfl rfl (Nat.le_of_ble_eq_true rfl) (ps_197 _ _ _ _ _) dX6_takeLonger_80 (fun I_70 H locs eI_70 hP hD hS => ?_)
              replace hFr := fr_I (f := 197) hFr hO_this (by decide +kernel) eI_70
              replace hF := hF.trans (ap_n (vI_st (f := 197) hO_this (by decide +kernel) eI_70))
              have hG := GX.wI hG 197 rfl eI_70 (rg_w h_69 (by decide +kernel)) (by decide +kernel)
              have tt_71 : (I_70 197 this).toInt = (x_68).toInt := by rw [eI_70, pq_us]
              have tt_72 : (I_70 193 this).toInt = (I_62 193 this).toInt := by rw [eI_70, pq_uf _ _ _ (by decide +kernel)]
              have tt_73 : (I_70 194 this).toInt = (I_62 194 this).toInt := by rw [eI_70, pq_uf _ _ _ (by decide +kernel)]
              subst hQ
              exact W.vret hx hb hr (fun t1 ht hW => ⟨⟨(σ, I_70, J, ri, rj, rq), rfl, ⟨I_70, rfl, hG, (by omega), (hF0.symm.trans hF), hFr⟩, by rw [ht]; exact hP, va_K.moved hW.alike hK, hD⟩, hS.F ht⟩) hS.2.2 dX6_takeLonger_83
            · have tc_74 : (I 194 this).toInt = 19 := congrArg Int32.toInt c_58
              exact (rg_empty (rg_and h_57 (rg_of_eq c_58 (rg_k (19 : Int32) 19 rfl)) (lo := 21) (hi := 19) (by decide +kernel)) (by decide +kernel)).elim
  exact go _ _ _ hP hD hS hl

set_option maxRecDepth 100000 in
def g_X6_takeWord_L57 (J : Nat → Int64) (ri : Nat → Nat → Int32) (rj : Nat → Nat → Int64) (rq : Nat → Nat → Option Nat) : Nat → (Int32) → (Int32) → (Int32) → (Int32) → (Nat → Int32) → vM
  | 0, x_17792, x_17793, x_17794, x_17795, I_17796 => (I_17796, J, ri, rj, rq)
  | n_17884 + 1, x_17792, x_17793, x_17794, x_17795, I_17796 => (if (94 : Int32) ≤ x_17795 then (I_17796, J, ri, rj, rq) else (ap1 (I_17796 194) fun (y_17908 : Int32) => (if (y_17908) = (34 : Int32) then (ap1 (txC (x_17795)) fun (x_17916 : Int32) => (if x_17916 = (32 : Int32) then (if x_17794 = (0 : Int32) then (ap1 (x_17792 + Int32.ofInt 1) fun (x_17931 : Int32) => (ap1 (I_17796 195) fun (y_17933 : Int32) => (ap1 (x_17795 + Int32.ofInt 1) fun (x_17934 : Int32) => ((g_X6_takeWord_L57 J ri rj rq n_17884) x_17931 (y_17933) (1 : Int32) x_17934 I_17796)))) else (ap1 (I_17796 197) fun (y_17939 : Int32) => (if x_17793 = (y_17939) then (ap1 (va_up I_17796 194 x_17792) fun (I_17952 : Nat → Int32) => (ap1 (x_17795 + Int32.ofInt 1) fun (x_17956 : Int32) => ((g_X6_takeWord_L57 J ri rj rq n_17884) x_17792 x_17793 x_17794 x_17956 I_17952))) else (ap1 (x_17792 + Int32.ofInt 1) fun (x_17945 : Int32) => (ap1 (I_17796 195) fun (y_17947 : Int32) => (ap1 (x_17795 + Int32.ofInt 1) fun (x_17948 : Int32) => ((g_X6_takeWord_L57 J ri rj rq n_17884) x_17945 (y_17947) (1 : Int32) x_17948 I_17796))))))) else (if x_17794 = (0 : Int32) then (ap1 (x_17793 + Int32.ofInt 1) fun (x_17967 : Int32) => (ap1 (x_17795 + Int32.ofInt 1) fun (x_17969 : Int32) => ((g_X6_takeWord_L57 J ri rj rq n_17884) x_17792 x_17967 (0 : Int32) x_17969 I_17796))) else (ap1 (I_17796 197) fun (y_17974 : Int32) => (if (y_17974) ≤ x_17793 then (ap1 (x_17793 + Int32.ofInt 1) fun (x_17982 : Int32) => (ap1 (x_17795 + Int32.ofInt 1) fun (x_17984 : Int32) => ((g_X6_takeWord_L57 J ri rj rq n_17884) x_17792 x_17982 (0 : Int32) x_17984 I_17796))) else (ap1 (ri 192 (x_17793).toNatClampNeg) fun (x_17989 : Int32) => (ap1 (txC (x_17795)) fun (x_17990 : Int32) => (if x_17989 = x_17990 then (ap1 (x_17793 + Int32.ofInt 1) fun (x_18001 : Int32) => (ap1 (x_17795 + Int32.ofInt 1) fun (x_18003 : Int32) => ((g_X6_takeWord_L57 J ri rj rq n_17884) x_17792 x_18001 (1 : Int32) x_18003 I_17796))) else (ap1 (x_17793 + Int32.ofInt 1) fun (x_17996 : Int32) => (ap1 (x_17795 + Int32.ofInt 1) fun (x_17998 : Int32) => ((g_X6_takeWord_L57 J ri rj rq n_17884) x_17792 x_17996 (0 : Int32) x_17998 I_17796))))))))))) else (I_17796, J, ri, rj, rq))))
set_option maxRecDepth 100000 in
theorem g_X6_takeWord_L57_e {J : Nat → Int64} {ri : Nat → Nat → Int32} {rj : Nat → Nat → Int64} {rq : Nat → Nat → Option Nat} {n_17884 : Nat} {x_17792 : Int32} {x_17793 : Int32} {x_17794 : Int32} {x_17795 : Int32} {I_17796 : Nat → Int32} : g_X6_takeWord_L57 J ri rj rq (n_17884 + 1) x_17792 x_17793 x_17794 x_17795 I_17796 = (if (94 : Int32) ≤ x_17795 then (I_17796, J, ri, rj, rq) else (ap1 (I_17796 194) fun (y_17908 : Int32) => (if (y_17908) = (34 : Int32) then (ap1 (txC (x_17795)) fun (x_17916 : Int32) => (if x_17916 = (32 : Int32) then (if x_17794 = (0 : Int32) then (ap1 (x_17792 + Int32.ofInt 1) fun (x_17931 : Int32) => (ap1 (I_17796 195) fun (y_17933 : Int32) => (ap1 (x_17795 + Int32.ofInt 1) fun (x_17934 : Int32) => ((g_X6_takeWord_L57 J ri rj rq n_17884) x_17931 (y_17933) (1 : Int32) x_17934 I_17796)))) else (ap1 (I_17796 197) fun (y_17939 : Int32) => (if x_17793 = (y_17939) then (ap1 (va_up I_17796 194 x_17792) fun (I_17952 : Nat → Int32) => (ap1 (x_17795 + Int32.ofInt 1) fun (x_17956 : Int32) => ((g_X6_takeWord_L57 J ri rj rq n_17884) x_17792 x_17793 x_17794 x_17956 I_17952))) else (ap1 (x_17792 + Int32.ofInt 1) fun (x_17945 : Int32) => (ap1 (I_17796 195) fun (y_17947 : Int32) => (ap1 (x_17795 + Int32.ofInt 1) fun (x_17948 : Int32) => ((g_X6_takeWord_L57 J ri rj rq n_17884) x_17945 (y_17947) (1 : Int32) x_17948 I_17796))))))) else (if x_17794 = (0 : Int32) then (ap1 (x_17793 + Int32.ofInt 1) fun (x_17967 : Int32) => (ap1 (x_17795 + Int32.ofInt 1) fun (x_17969 : Int32) => ((g_X6_takeWord_L57 J ri rj rq n_17884) x_17792 x_17967 (0 : Int32) x_17969 I_17796))) else (ap1 (I_17796 197) fun (y_17974 : Int32) => (if (y_17974) ≤ x_17793 then (ap1 (x_17793 + Int32.ofInt 1) fun (x_17982 : Int32) => (ap1 (x_17795 + Int32.ofInt 1) fun (x_17984 : Int32) => ((g_X6_takeWord_L57 J ri rj rq n_17884) x_17792 x_17982 (0 : Int32) x_17984 I_17796))) else (ap1 (ri 192 (x_17793).toNatClampNeg) fun (x_17989 : Int32) => (ap1 (txC (x_17795)) fun (x_17990 : Int32) => (if x_17989 = x_17990 then (ap1 (x_17793 + Int32.ofInt 1) fun (x_18001 : Int32) => (ap1 (x_17795 + Int32.ofInt 1) fun (x_18003 : Int32) => ((g_X6_takeWord_L57 J ri rj rq n_17884) x_17792 x_18001 (1 : Int32) x_18003 I_17796))) else (ap1 (x_17793 + Int32.ofInt 1) fun (x_17996 : Int32) => (ap1 (x_17795 + Int32.ofInt 1) fun (x_17998 : Int32) => ((g_X6_takeWord_L57 J ri rj rq n_17884) x_17792 x_17996 (0 : Int32) x_17998 I_17796))))))))))) else (I_17796, J, ri, rj, rq)))) := rfl
set_option maxRecDepth 100000 in
def g_X6_takeWord_K39 (I : Nat → Int32) (J : Nat → Int64) (ri : Nat → Nat → Int32) (rj : Nat → Nat → Int64) (rq : Nat → Nat → Option Nat) : vM := (ap1 (va_up I 194 (34 : Int32)) fun (I_15435 : Nat → Int32) => (ap1 (I_15435 195) fun (y_15440 : Int32) => (g_X6_takeWord_L57 J ri rj rq ((94 - ((0 : Int32)).toInt).toNat + 1) (0 : Int32) (y_15440) (1 : Int32) (0 : Int32) I_15435)))
set_option maxRecDepth 100000 in
theorem g_X6_takeWord_K39_e {I : Nat → Int32} {J : Nat → Int64} {ri : Nat → Nat → Int32} {rj : Nat → Nat → Int64} {rq : Nat → Nat → Option Nat} : g_X6_takeWord_K39 I J ri rj rq  = (ap1 (va_up I 194 (34 : Int32)) fun (I_15435 : Nat → Int32) => (ap1 (I_15435 195) fun (y_15440 : Int32) => (g_X6_takeWord_L57 J ri rj rq ((94 - ((0 : Int32)).toInt).toNat + 1) (0 : Int32) (y_15440) (1 : Int32) (0 : Int32) I_15435))) := rfl
set_option maxRecDepth 100000 in
def g_X6_takeWord_L57_2 (J : Nat → Int64) (ri : Nat → Nat → Int32) (rj : Nat → Nat → Int64) (rq : Nat → Nat → Option Nat) : Nat → (Int32) → (Int32) → (Int32) → (Int32) → (Nat → Int32) → vM
  | 0, x_33269, x_33270, x_33271, x_33272, I_33273 => (I_33273, J, ri, rj, rq)
  | n_33361 + 1, x_33269, x_33270, x_33271, x_33272, I_33273 => (if (94 : Int32) ≤ x_33272 then (I_33273, J, ri, rj, rq) else (ap1 (I_33273 194) fun (y_33385 : Int32) => (if (y_33385) = (34 : Int32) then (ap1 (txC (x_33272)) fun (x_33393 : Int32) => (if x_33393 = (32 : Int32) then (if x_33271 = (0 : Int32) then (ap1 (x_33269 + Int32.ofInt 1) fun (x_33408 : Int32) => (ap1 (I_33273 195) fun (y_33410 : Int32) => (ap1 (x_33272 + Int32.ofInt 1) fun (x_33411 : Int32) => ((g_X6_takeWord_L57_2 J ri rj rq n_33361) x_33408 (y_33410) (1 : Int32) x_33411 I_33273)))) else (ap1 (I_33273 197) fun (y_33416 : Int32) => (if x_33270 = (y_33416) then (ap1 (va_up I_33273 194 x_33269) fun (I_33429 : Nat → Int32) => (ap1 (x_33272 + Int32.ofInt 1) fun (x_33433 : Int32) => ((g_X6_takeWord_L57_2 J ri rj rq n_33361) x_33269 x_33270 x_33271 x_33433 I_33429))) else (ap1 (x_33269 + Int32.ofInt 1) fun (x_33422 : Int32) => (ap1 (I_33273 195) fun (y_33424 : Int32) => (ap1 (x_33272 + Int32.ofInt 1) fun (x_33425 : Int32) => ((g_X6_takeWord_L57_2 J ri rj rq n_33361) x_33422 (y_33424) (1 : Int32) x_33425 I_33273))))))) else (if x_33271 = (0 : Int32) then (ap1 (x_33270 + Int32.ofInt 1) fun (x_33444 : Int32) => (ap1 (x_33272 + Int32.ofInt 1) fun (x_33446 : Int32) => ((g_X6_takeWord_L57_2 J ri rj rq n_33361) x_33269 x_33444 (0 : Int32) x_33446 I_33273))) else (ap1 (I_33273 197) fun (y_33451 : Int32) => (if (y_33451) ≤ x_33270 then (ap1 (x_33270 + Int32.ofInt 1) fun (x_33459 : Int32) => (ap1 (x_33272 + Int32.ofInt 1) fun (x_33461 : Int32) => ((g_X6_takeWord_L57_2 J ri rj rq n_33361) x_33269 x_33459 (0 : Int32) x_33461 I_33273))) else (ap1 (ri 192 (x_33270).toNatClampNeg) fun (x_33466 : Int32) => (ap1 (txC (x_33272)) fun (x_33467 : Int32) => (if x_33466 = x_33467 then (ap1 (x_33270 + Int32.ofInt 1) fun (x_33478 : Int32) => (ap1 (x_33272 + Int32.ofInt 1) fun (x_33480 : Int32) => ((g_X6_takeWord_L57_2 J ri rj rq n_33361) x_33269 x_33478 (1 : Int32) x_33480 I_33273))) else (ap1 (x_33270 + Int32.ofInt 1) fun (x_33473 : Int32) => (ap1 (x_33272 + Int32.ofInt 1) fun (x_33475 : Int32) => ((g_X6_takeWord_L57_2 J ri rj rq n_33361) x_33269 x_33473 (0 : Int32) x_33475 I_33273))))))))))) else (I_33273, J, ri, rj, rq))))
set_option maxRecDepth 100000 in
theorem g_X6_takeWord_L57_2_e {J : Nat → Int64} {ri : Nat → Nat → Int32} {rj : Nat → Nat → Int64} {rq : Nat → Nat → Option Nat} {n_33361 : Nat} {x_33269 : Int32} {x_33270 : Int32} {x_33271 : Int32} {x_33272 : Int32} {I_33273 : Nat → Int32} : g_X6_takeWord_L57_2 J ri rj rq (n_33361 + 1) x_33269 x_33270 x_33271 x_33272 I_33273 = (if (94 : Int32) ≤ x_33272 then (I_33273, J, ri, rj, rq) else (ap1 (I_33273 194) fun (y_33385 : Int32) => (if (y_33385) = (34 : Int32) then (ap1 (txC (x_33272)) fun (x_33393 : Int32) => (if x_33393 = (32 : Int32) then (if x_33271 = (0 : Int32) then (ap1 (x_33269 + Int32.ofInt 1) fun (x_33408 : Int32) => (ap1 (I_33273 195) fun (y_33410 : Int32) => (ap1 (x_33272 + Int32.ofInt 1) fun (x_33411 : Int32) => ((g_X6_takeWord_L57_2 J ri rj rq n_33361) x_33408 (y_33410) (1 : Int32) x_33411 I_33273)))) else (ap1 (I_33273 197) fun (y_33416 : Int32) => (if x_33270 = (y_33416) then (ap1 (va_up I_33273 194 x_33269) fun (I_33429 : Nat → Int32) => (ap1 (x_33272 + Int32.ofInt 1) fun (x_33433 : Int32) => ((g_X6_takeWord_L57_2 J ri rj rq n_33361) x_33269 x_33270 x_33271 x_33433 I_33429))) else (ap1 (x_33269 + Int32.ofInt 1) fun (x_33422 : Int32) => (ap1 (I_33273 195) fun (y_33424 : Int32) => (ap1 (x_33272 + Int32.ofInt 1) fun (x_33425 : Int32) => ((g_X6_takeWord_L57_2 J ri rj rq n_33361) x_33422 (y_33424) (1 : Int32) x_33425 I_33273))))))) else (if x_33271 = (0 : Int32) then (ap1 (x_33270 + Int32.ofInt 1) fun (x_33444 : Int32) => (ap1 (x_33272 + Int32.ofInt 1) fun (x_33446 : Int32) => ((g_X6_takeWord_L57_2 J ri rj rq n_33361) x_33269 x_33444 (0 : Int32) x_33446 I_33273))) else (ap1 (I_33273 197) fun (y_33451 : Int32) => (if (y_33451) ≤ x_33270 then (ap1 (x_33270 + Int32.ofInt 1) fun (x_33459 : Int32) => (ap1 (x_33272 + Int32.ofInt 1) fun (x_33461 : Int32) => ((g_X6_takeWord_L57_2 J ri rj rq n_33361) x_33269 x_33459 (0 : Int32) x_33461 I_33273))) else (ap1 (ri 192 (x_33270).toNatClampNeg) fun (x_33466 : Int32) => (ap1 (txC (x_33272)) fun (x_33467 : Int32) => (if x_33466 = x_33467 then (ap1 (x_33270 + Int32.ofInt 1) fun (x_33478 : Int32) => (ap1 (x_33272 + Int32.ofInt 1) fun (x_33480 : Int32) => ((g_X6_takeWord_L57_2 J ri rj rq n_33361) x_33269 x_33478 (1 : Int32) x_33480 I_33273))) else (ap1 (x_33270 + Int32.ofInt 1) fun (x_33473 : Int32) => (ap1 (x_33272 + Int32.ofInt 1) fun (x_33475 : Int32) => ((g_X6_takeWord_L57_2 J ri rj rq n_33361) x_33269 x_33473 (0 : Int32) x_33475 I_33273))))))))))) else (I_33273, J, ri, rj, rq)))) := rfl
set_option maxRecDepth 100000 in
def g_X6_takeWord_K39_2 (J : Nat → Int64) (ri : Nat → Nat → Int32) (rj : Nat → Nat → Int64) (rq : Nat → Nat → Option Nat) (I_25761 : Nat → Int32) : vM := (ap1 (va_up I_25761 194 (34 : Int32)) fun (I_30912 : Nat → Int32) => (ap1 (I_30912 195) fun (y_30917 : Int32) => (g_X6_takeWord_L57_2 J ri rj rq ((94 - ((0 : Int32)).toInt).toNat + 1) (0 : Int32) (y_30917) (1 : Int32) (0 : Int32) I_30912)))
set_option maxRecDepth 100000 in
theorem g_X6_takeWord_K39_2_e {J : Nat → Int64} {ri : Nat → Nat → Int32} {rj : Nat → Nat → Int64} {rq : Nat → Nat → Option Nat} {I_25761 : Nat → Int32} : g_X6_takeWord_K39_2 J ri rj rq I_25761  = (ap1 (va_up I_25761 194 (34 : Int32)) fun (I_30912 : Nat → Int32) => (ap1 (I_30912 195) fun (y_30917 : Int32) => (g_X6_takeWord_L57_2 J ri rj rq ((94 - ((0 : Int32)).toInt).toNat + 1) (0 : Int32) (y_30917) (1 : Int32) (0 : Int32) I_30912))) := rfl
set_option maxRecDepth 100000 in
def g_X6_takeWord_L0 (J : Nat → Int64) (ri : Nat → Nat → Int32) (rj : Nat → Nat → Int64) (rq : Nat → Nat → Option Nat) : Nat → (Nat → Int32) → vM
  | 0, I_25761 => (I_25761, J, ri, rj, rq)
  | n_28334 + 1, I_25761 => (ap1 (I_25761 197) fun (y_28340 : Int32) => (ap1 (I_25761 193) fun (y_28342 : Int32) => (if (y_28342) ≤ (y_28340) then (g_X6_takeWord_K39_2 J ri rj rq I_25761 ) else (ap1 (ri 192 ((y_28340)).toNatClampNeg) fun (x_33491 : Int32) => (ap1 (g_X6_isLetter_x x_33491) fun (x_33493 : Int32) => (if x_33493 = (0 : Int32) then (g_X6_takeWord_K39_2 J ri rj rq I_25761 ) else (ap1 ((y_28340) + (1 : Int32)) fun (x_33516 : Int32) => (ap1 (va_up I_25761 197 x_33516) fun (I_33518 : Nat → Int32) => ((g_X6_takeWord_L0 J ri rj rq n_28334) I_33518)))))))))
set_option maxRecDepth 100000 in
theorem g_X6_takeWord_L0_e {J : Nat → Int64} {ri : Nat → Nat → Int32} {rj : Nat → Nat → Int64} {rq : Nat → Nat → Option Nat} {n_28334 : Nat} {I_25761 : Nat → Int32} : g_X6_takeWord_L0 J ri rj rq (n_28334 + 1) I_25761 = (ap1 (I_25761 197) fun (y_28340 : Int32) => (ap1 (I_25761 193) fun (y_28342 : Int32) => (if (y_28342) ≤ (y_28340) then (g_X6_takeWord_K39_2 J ri rj rq I_25761 ) else (ap1 (ri 192 ((y_28340)).toNatClampNeg) fun (x_33491 : Int32) => (ap1 (g_X6_isLetter_x x_33491) fun (x_33493 : Int32) => (if x_33493 = (0 : Int32) then (g_X6_takeWord_K39_2 J ri rj rq I_25761 ) else (ap1 ((y_28340) + (1 : Int32)) fun (x_33516 : Int32) => (ap1 (va_up I_25761 197 x_33516) fun (I_33518 : Nat → Int32) => ((g_X6_takeWord_L0 J ri rj rq n_28334) I_33518))))))))) := rfl
set_option maxRecDepth 100000 in
def g_X6_takeWord (I : Nat → Int32) (J : Nat → Int64) (ri : Nat → Nat → Int32) (rj : Nat → Nat → Int64) (rq : Nat → Nat → Option Nat) : vM := (ap1 (I 197) fun (y_2 : Int32) => (ap1 (I 193) fun (y_4 : Int32) => (if (y_4) ≤ (y_2) then (g_X6_takeWord_K39 I J ri rj rq ) else (ap1 (ri 192 ((y_2)).toNatClampNeg) fun (x_18014 : Int32) => (ap1 (g_X6_isLetter_x x_18014) fun (x_18016 : Int32) => (if x_18016 = (0 : Int32) then (g_X6_takeWord_K39 I J ri rj rq ) else (ap1 ((y_2) + (1 : Int32)) fun (x_18039 : Int32) => (ap1 (va_up I 197 x_18039) fun (I_18041 : Nat → Int32) => (ap1 (I_18041 197) fun (y_33522 : Int32) => (g_X6_takeWord_L0 J ri rj rq ((300 - (y_33522).toInt).toNat + 1) I_18041))))))))))
set_option maxRecDepth 100000 in
theorem g_X6_takeWord_e {I : Nat → Int32} {J : Nat → Int64} {ri : Nat → Nat → Int32} {rj : Nat → Nat → Int64} {rq : Nat → Nat → Option Nat} : g_X6_takeWord I J ri rj rq = (ap1 (I 197) fun (y_2 : Int32) => (ap1 (I 193) fun (y_4 : Int32) => (if (y_4) ≤ (y_2) then (g_X6_takeWord_K39 I J ri rj rq ) else (ap1 (ri 192 ((y_2)).toNatClampNeg) fun (x_18014 : Int32) => (ap1 (g_X6_isLetter_x x_18014) fun (x_18016 : Int32) => (if x_18016 = (0 : Int32) then (g_X6_takeWord_K39 I J ri rj rq ) else (ap1 ((y_2) + (1 : Int32)) fun (x_18039 : Int32) => (ap1 (va_up I 197 x_18039) fun (I_18041 : Nat → Int32) => (ap1 (I_18041 197) fun (y_33522 : Int32) => (g_X6_takeWord_L0 J ri rj rq ((300 - (y_33522).toInt).toNat + 1) I_18041)))))))))) := rfl
set_option maxHeartbeats 4000000 in
set_option maxRecDepth 100000 in
theorem s_X6_takeWord (l : Launch) (D : va_G) (t : pq_T) (σ : pq_S) (I : Nat → Nat → Int32) (J : Nat → Nat → Int64) (ri : Nat → Nat → Int32) (rj : Nat → Nat → Int64) (rq : Nat → Nat → Option Nat) (sz : Nat) (aK aV : Nat) (vF : Value) (tg : Nat → Nat) (hSH : SH σ tg) (hG0 : GS tg σ I ri rq) (this : Nat) (hL_this : this ∈ σ.1) (hK_this : σ.2.1 this = 6) (this_tape : Nat) (hR_this_tape : σ.2.2.1 192 this = some this_tape) (hL_this_tape : this_tape ∈ σ.1) (hK_this_tape : σ.2.1 this_tape = 13) (hN_this_tape : σ.2.2.2 this_tape = 300) (hT_this_tape : tg this_tape = 192) (M : Nat) (hL_M : M ∈ σ.1) (hK_M : σ.2.1 M = 4) (hO_this : this = vo σ 6 M) (hat : (I 197 this).toInt < (I 193 this).toInt) (hdg : (65 ≤ (ri this_tape (I 197 this).toNatClampNeg).toInt ∧ (ri this_tape (I 197 this).toNatClampNeg).toInt ≤ 90 ∨ 97 ≤ (ri this_tape (I 197 this).toNatClampNeg).toInt ∧ (ri this_tape (I 197 this).toNatClampNeg).toInt ≤ 122)) : MetVS aK aV vF l yX6_takeWord (wa yX6_takeWord cX6_takeWord 5 none) ({ frames := 4, cells := 0, slots := 0, locals := 85 }) [.ref this] D t σ (I, J, ri, rj, rq) sz 0 0 (fun (u : pq_S × pq_M) => ∃ I' : Nat → Nat → Int32, u = (σ, I', J, ri, rj, rq) ∧ GX [197, 194] tg σ I ri rj I' ri rj rq ∧ ((I 197 this).toInt + 1 ≤ (I' 197 this).toInt) ∧ g_X6_takeWord (vI 4 σ M I) (vJ 4 σ M J) (vR 4 σ M ri) (vL 4 σ M rj) (vQ 4 σ M rq) = ((vI 4 σ M I'), (vJ 4 σ M J), (vR 4 σ M ri), (vL 4 σ M rj), (vQ 4 σ M rq)) ∧ FR 4 tg σ M (I, J, ri, rj, rq) (I', J, ri, rj, rq)) := by
  refine Met.ofW (cc := cX6_takeWord) (maxL := 5) (ret := none) (by decide +kernel) rfl ?_
  intro p e s m args below meth c s₁ B hml hv
  obtain ⟨rfl, ⟨hsz, hP, hK, hD0, hN⟩, hW0⟩ := hv
  have hx := B.exec
  have hb := B.bytes
  have hr := B.returns
  have hts := atoms_spec (ws := (wa yX6_takeWord cX6_takeWord 5 none)) B.pre
  have hown : s.vm.findClass RX6 = some m.cls := findClass_of_methodNamed B.named
  have hlocks := B.notSynchronized
  subst hsz
  have hD : va_D (pq_B t σ (I, J, ri, rj, rq) s.heap.size) (pq_P t σ (I, J, ri, rj, rq)) := hD0.self
  generalize hAe : pq_B t σ (I, J, ri, rj, rq) s.heap.size = A at hD hW0 ⊢
  have hA : ∀ q : Nat, s.heap.size ≤ q → A q := fun q h => by rw [← hAe]; exact Or.inr h
  have hS : va_S A s.heap s.heap [] := va_S.rf
  have hG : GX [197, 194] tg σ I ri rj I ri rj rq := ⟨hG0, fun _ _ _ => rfl, fun _ _ _ _ _ => rfl, fun _ _ _ _ _ => rfl⟩
  have hl := lv_entry ([.ref this]) (n := 5) (Nat.le_of_ble_eq_true rfl)
  rw [lg_entry_eq]
  generalize (lg_sl ([.ref this]) ++ List.replicate (5 - (lg_sl ([.ref this])).length) Slot.unset).toArray = ls at hl ⊢
  have hl : lv_has ls 5 [(0, .ref this)] := hl
  refine q_gen (fun Q hQ => ?_)
  have go : ∀ (H : Heap) (locs : List Loc) (ls : Array Slot), va_P D vwCl (pq_P t σ (I, J, ri, rj, rq)) H → va_D A (pq_P t σ (I, J, ri, rj, rq)) → va_S A s.heap H locs → lv_has ls 5 [(0, .ref this)] → W p l e ({ frames := 4, cells := 0, slots := 0, locals := 85 } : Room) s m (List.toArray ([.ref this] : List Value)) below meth c H locs 0 0 Q (F0 m 0 ls []) := by
    intro H locs ls hP hD hS hl
    have hVT : VT 4 σ tg M := vt_4 hSH hL_M hK_M
    have hFr : FR 4 tg σ M (I, J, ri, rj, rq) (I, J, ri, rj, rq) := fr_rf
    have hO_this_tape : this_tape = vrow σ 192 M := vo_k (c := 6) hO_this hR_this_tape
    obtain ⟨F, hF0⟩ : ∃ F, F = g_X6_takeWord (vI 4 σ M I) (vJ 4 σ M J) (vR 4 σ M ri) (vL 4 σ M rj) (vQ 4 σ M rq) := ⟨_, rfl⟩
    have hF := hF0.trans g_X6_takeWord_e
    refine lv_aload_n hx hb dX6_takeWord_0 rfl (lv_at hl 0 rfl) ?_
    refine pg_f (v := .int (I 197 this)) (C := RX6) (T := TX6) (N := 6) hx hb hts (tw_i inlX6) hown hK hP hL_this hK_this (by decide +kernel) rfl 5 (by decide +kernel) (hts _ (tw_c tw_662)) rfl dX6_takeWord_1 ?_
    have h_1 : rg (I 197 this) 0 300 := GX.rI hG 197 rfl
    have uh_1 := h_1.1
    have vh_1 := h_1.2
    replace hF := hF.trans (ap_n (vI_e (f := 197) hO_this (by decide +kernel)))
    refine lv_aload_n hx hb dX6_takeWord_4 rfl (lv_at hl 0 rfl) ?_
    refine pg_f (v := .int (I 193 this)) (C := RX6) (T := TX6) (N := 6) hx hb hts (tw_i inlX6) hown hK hP hL_this hK_this (by decide +kernel) rfl 1 (by decide +kernel) (hts _ (tw_c tw_626)) rfl dX6_takeWord_5 ?_
    have h_3 : rg (I 193 this) 0 300 := GX.rI hG 193 rfl
    have uh_3 := h_3.1
    have vh_3 := h_3.2
    replace hF := hF.trans (ap_n (vI_e (f := 193) hO_this (by decide +kernel)))
    have K_15432 : ∀  (H : Heap) (locs : List Loc) (ls : Array Slot), ((I 197 this).toInt + 1 ≤ (I 197 this).toInt) → F = g_X6_takeWord_K39 (vI 4 σ M I) (vJ 4 σ M J) (vR 4 σ M ri) (vL 4 σ M rj) (vQ 4 σ M rq)  → FR 4 tg σ M (I, J, ri, rj, rq) (I, J, ri, rj, rq) → GX [197, 194] tg σ I ri rj I ri rj rq → va_P D vwCl (pq_P t σ (I, J, ri, rj, rq)) H → va_D A (pq_P t σ (I, J, ri, rj, rq)) → va_S A s.heap H locs → lv_has ls 5 [(0, .ref this)] → W p l e ({ frames := 4, cells := 0, slots := 0, locals := 85 } : Room) s m (List.toArray ([.ref this] : List Value)) below meth c H locs 0 0 Q (F0 m 39 ls []) := by
      intro H locs ls hrel_15434 hF hFr hG hP hD hS hl
      replace hF := hF.trans g_X6_takeWord_K39_e
      refine lv_aload_n hx hb dX6_takeWord_39 rfl (lv_at hl 0 rfl) ?_
      refine lv_bipush (v := 34) hx hb dX6_takeWord_40 (by decide +kernel) ?_
      refine pp_i (v := 34) (ty := .int) (C := RX6) (T := TX6) (N := 6) hx hb hts (tw_i inlX6) tyX6 tyX6_ok nmX6 hown hK hP hD hS hL_this hK_this (by decide +kernel) rfl 2 194 (by decide +kernel) (hts _ (tw_c tw_668)) rfl (tyX6_ok 2 (by decide +kernel)) rfl rfl (Nat.le_of_ble_eq_true rfl) (ps_194 _ _ _ _ _) dX6_takeWord_42 (fun I_15435 H locs eI_15435 hP hD hS => ?_)
      replace hFr := fr_I (f := 194) hFr hO_this (by decide +kernel) eI_15435
      replace hF := hF.trans (ap_n (vI_st (f := 194) hO_this (by decide +kernel) eI_15435))
      have hG := GX.wI hG 194 rfl eI_15435 (rg_w (rg_k (34 : Int32) 34 rfl) (by decide +kernel)) (by decide +kernel)
      have tt_15436 : (I_15435 197 this).toInt = (I 197 this).toInt := by rw [eI_15435, pq_uf _ _ _ (by decide +kernel)]
      have tt_15437 : (I_15435 193 this).toInt = (I 193 this).toInt := by rw [eI_15435, pq_uf _ _ _ (by decide +kernel)]
      have tt_15438 : (I_15435 194 this).toInt = 34 := by rw [eI_15435, pq_us]; rfl
      refine lv_iconst (v := 0) hx hb dX6_takeWord_45 (by decide +kernel) ?_
      refine lv_istore_n (lv' := [(1, .int 0), (0, .ref this)]) hx hb dX6_takeWord_46 rfl hl (by decide +kernel) rfl (fun ls hl => ?_)
      refine lv_aload_n hx hb dX6_takeWord_47 rfl (lv_at hl 1 rfl) ?_
      refine pg_f (v := .int (I_15435 195 this)) (C := RX6) (T := TX6) (N := 6) hx hb hts (tw_i inlX6) hown hK hP hL_this hK_this (by decide +kernel) rfl 3 (by decide +kernel) (hts _ (tw_c tw_667)) rfl dX6_takeWord_48 ?_
      have h_15439 : rg (I_15435 195 this) 0 300 := GX.rI hG 195 rfl
      have uh_15439 := h_15439.1
      have vh_15439 := h_15439.2
      replace hF := hF.trans (ap_n (vI_e (f := 195) hO_this (by decide +kernel)))
      refine lv_istore_n (lv' := [(2, .int (I_15435 195 this)), (1, .int 0), (0, .ref this)]) hx hb dX6_takeWord_51 rfl hl (by decide +kernel) rfl (fun ls hl => ?_)
      refine lv_iconst (v := 1) hx hb dX6_takeWord_52 (by decide +kernel) ?_
      refine lv_istore_n (lv' := [(3, .int 1), (2, .int (I_15435 195 this)), (1, .int 0), (0, .ref this)]) hx hb dX6_takeWord_53 rfl hl (by decide +kernel) rfl (fun ls hl => ?_)
      refine lv_iconst (v := 0) hx hb dX6_takeWord_54 (by decide +kernel) ?_
      refine lv_istore (lv' := [(4, .int 0), (3, .int 1), (2, .int (I_15435 195 this)), (1, .int 0), (0, .ref this)]) hx hb dX6_takeWord_55 hl (by decide +kernel) rfl (fun ls hl => ?_)
      have L_17885 : ∀ (n_17884 : Nat) (x_17792 : Int32) (x_17793 : Int32) (x_17794 : Int32) (x_17795 : Int32) (I_17796 : Nat → Nat → Int32) (H : Heap) (locs : List Loc) (ls : Array Slot), rg x_17793 0 394 → rg x_17794 0 1 → rg x_17795 0 94 → ((I 197 this).toInt + 1 ≤ (I_17796 197 this).toInt) → (0 ≤ (x_17793).toInt ∧ (x_17793).toInt ≤ 300 + (x_17795).toInt) → (94 - (x_17795).toInt).toNat < n_17884 → F = g_X6_takeWord_L57 (vJ 4 σ M J) (vR 4 σ M ri) (vL 4 σ M rj) (vQ 4 σ M rq) n_17884 x_17792 x_17793 x_17794 x_17795 (vI 4 σ M I_17796) → FR 4 tg σ M (I, J, ri, rj, rq) (I_17796, J, ri, rj, rq) → GX [197, 194] tg σ I ri rj I_17796 ri rj rq → va_P D vwCl (pq_P t σ (I_17796, J, ri, rj, rq)) H → va_D A (pq_P t σ (I_17796, J, ri, rj, rq)) → va_S A s.heap H locs → lv_has ls 5 [(0, .ref this), (1, .int x_17792), (2, .int x_17793), (3, .int x_17794), (4, .int x_17795)] → W p l e ({ frames := 4, cells := 0, slots := 0, locals := 85 } : Room) s m (List.toArray ([.ref this] : List Value)) below meth c H locs 0 0 Q (F0 m 57 ls []) := by
        intro n_17884
        induction n_17884 with
        | zero => intro x_17792 x_17793 x_17794 x_17795 I_17796 H locs ls h_17892 h_17893 h_17894 hrel_17895 hrel_17896 hm_17883 hF hFr hG hP hD hS hl; exact absurd hm_17883 (Nat.not_lt_zero _)
        | succ n_17884 ih_17886 =>
          intro x_17792 x_17793 x_17794 x_17795 I_17796 H locs ls h_17892 h_17893 h_17894 hrel_17895 hrel_17896 hm_17883 hF hFr hG hP hD hS hl
          have uh_17892 := h_17892.1
          have vh_17892 := h_17892.2
          have uh_17893 := h_17893.1
          have vh_17893 := h_17893.2
          have uh_17894 := h_17894.1
          have vh_17894 := h_17894.2
          replace hF := hF.trans g_X6_takeWord_L57_e
          refine lv_iload hx hb dX6_takeWord_57 (lv_at hl 4 rfl) ?_
          refine va_ldcS hx hb hown hW0.2.2.2.2.2.2.2 dX6_takeWord_59 ?_
          refine pk_i (va_runV (As := []) (rest := [.int x_17795]) ⟨hx, hb, hml, hown, hts⟩ (s_J0_length l D t σ I_17796 J ri rj rq H.size aK aV vF ) (cwV 0 hts (tw_V tw_685 tw_686 tw_687 tw_688 tw_689) rfl rfl rfl cv_yJ0_length_8abf5_0 ⟨Nat.le_of_ble_eq_true rfl, Nat.le_of_ble_eq_true rfl⟩) ⟨pq_blindS, pq_recvS hW0 hS, pq_preS hK hN hP hD hS hA hW0⟩ rfl rfl hl.1 rfl (lv_room (Nat.le_of_ble_eq_true rfl)) dX6_takeWord_61 ⟨Nat.le_of_ble_eq_true rfl, Nat.le_of_ble_eq_true rfl⟩) hD hS hA (fun x_17897 σ1 μ1 H locs hw_17898 hP hD hS => ?_)
          obtain ⟨hux_17897, hvx_17897⟩ := hw_17898
          obtain ⟨huax_17897, hubx_17897⟩ := Prod.mk.inj hux_17897
          rw [huax_17897, hubx_17897] at hP hD
          refine lv_tov 94 hvx_17897 ?_
          refine lv_icmp_ge (tgt := 164) hx hb dX6_takeWord_64 (by decide +kernel) (fun c_17899 => ?_) (fun c_17899 => ?_)
          · replace hF := hF.trans (if_pos c_17899)
            have tc_17904 : 94 ≤ (x_17795).toInt := Int32.le_iff_toInt_le.mp c_17899
            have h_17905 : rg x_17795 94 94 := rg_le2 c_17899 (rg_k (94 : Int32) 94 rfl) h_17894 (by decide +kernel)
            have uh_17905 := h_17905.1
            have vh_17905 := h_17905.2
            subst hQ
            exact W.vret hx hb hr (fun t1 ht hW => ⟨⟨(σ, I_17796, J, ri, rj, rq), rfl, ⟨I_17796, rfl, hG, (by omega), (hF0.symm.trans hF), hFr⟩, by rw [ht]; exact hP, va_K.moved hW.alike hK, hD⟩, hS.F ht⟩) hS.2.2 dX6_takeWord_164
          · replace hF := hF.trans (if_neg c_17899)
            have tc_17906 : (x_17795).toInt < 94 := Int32.lt_iff_toInt_lt.mp (nle c_17899)
            have h_17907 : rg x_17795 0 93 := rg_lt1 (nle c_17899) h_17894 (rg_k (94 : Int32) 94 rfl) (by decide +kernel)
            have uh_17907 := h_17907.1
            have vh_17907 := h_17907.2
            refine lv_aload_n hx hb dX6_takeWord_67 rfl (lv_at hl 0 rfl) ?_
            refine pg_f (v := .int (I_17796 194 this)) (C := RX6) (T := TX6) (N := 6) hx hb hts (tw_i inlX6) hown hK hP hL_this hK_this (by decide +kernel) rfl 2 (by decide +kernel) (hts _ (tw_c tw_668)) rfl dX6_takeWord_68 ?_
            replace hF := hF.trans (ap_n (vI_e (f := 194) hO_this (by decide +kernel)))
            refine lv_bipush (v := 34) hx hb dX6_takeWord_71 (by decide +kernel) ?_
            refine lv_icmp_ne (tgt := 164) hx hb dX6_takeWord_73 (by decide +kernel) (fun c_17909 => ?_) (fun c_17909 => ?_)
            · replace hF := hF.trans (if_neg c_17909)
              have tc_17913 : (I_17796 194 this).toInt ≠ 34 := fun q => c_17909 (Int32.toInt_inj.mp q)
              subst hQ
              exact W.vret hx hb hr (fun t1 ht hW => ⟨⟨(σ, I_17796, J, ri, rj, rq), rfl, ⟨I_17796, rfl, hG, (by omega), (hF0.symm.trans hF), hFr⟩, by rw [ht]; exact hP, va_K.moved hW.alike hK, hD⟩, hS.F ht⟩) hS.2.2 dX6_takeWord_164
            · replace hF := hF.trans (if_pos c_17909)
              have tc_17914 : (I_17796 194 this).toInt = 34 := congrArg Int32.toInt c_17909
              have h_17915 : rg (I_17796 194 this) 34 34 := rg_and (rg_full _) (rg_of_eq c_17909 (rg_k (34 : Int32) 34 rfl)) (by decide +kernel)
              have uh_17915 := h_17915.1
              have vh_17915 := h_17915.2
              refine va_ldcS hx hb hown hW0.2.2.2.2.2.2.2 dX6_takeWord_76 ?_
              refine lv_iload hx hb dX6_takeWord_78 (lv_at hl 4 rfl) ?_
              refine pk_i (va_runV (As := [.int x_17795]) (rest := []) ⟨hx, hb, hml, hown, hts⟩ (s_J0_charAt l D t σ I_17796 J ri rj rq H.size aK aV vF x_17795 (Int32.not_lt.mpr (Int32.le_iff_toInt_le.mpr (by have z8 := (h_17907).1; have z9 : (0 : Int32).toInt = 0 := rfl; omega))) (Int32.lt_iff_toInt_lt.mpr (by have z8 := (h_17907).2; have z9 : (94 : Int32).toInt = 94 := rfl; omega))) (cwV 1 hts (tw_V tw_697 tw_698 tw_699 tw_688 tw_700) rfl rfl rfl cv_yJ0_charAt_5068e_1 ⟨Nat.le_of_ble_eq_true rfl, Nat.le_of_ble_eq_true rfl⟩) ⟨pq_blindS, pq_recvS hW0 hS, pq_preS hK hN hP hD hS hA hW0⟩ rfl rfl hl.1 rfl (lv_room (Nat.le_of_ble_eq_true rfl)) dX6_takeWord_80 ⟨Nat.le_of_ble_eq_true rfl, Nat.le_of_ble_eq_true rfl⟩) hD hS hA (fun x_17916 σ1 μ1 H locs hw_17917 hP hD hS => ?_)
              obtain ⟨hux_17916, hcx_17916, hvx_17916⟩ := hw_17917
              obtain ⟨huax_17916, hubx_17916⟩ := Prod.mk.inj hux_17916
              rw [huax_17916, hubx_17916] at hP hD
              replace hF := hF.trans (ap_n hcx_17916)
              refine lv_bipush (v := 32) hx hb dX6_takeWord_83 (by decide +kernel) ?_
              refine lv_icmp_eq (tgt := 128) hx hb dX6_takeWord_85 (by decide +kernel) (fun c_17918 => ?_) (fun c_17918 => ?_)
              · replace hF := hF.trans (if_pos c_17918)
                have tc_17922 : (x_17916).toInt = 32 := congrArg Int32.toInt c_17918
                have h_17923 : rg x_17916 32 32 := rg_and (rg_full _) (rg_of_eq c_17918 (rg_k (32 : Int32) 32 rfl)) (by decide +kernel)
                have uh_17923 := h_17923.1
                have vh_17923 := h_17923.2
                refine lv_iload_n hx hb dX6_takeWord_128 rfl (lv_at hl 3 rfl) ?_
                refine lv_if_eq (tgt := 148) hx hb dX6_takeWord_129 (by decide +kernel) (fun c_17924 => ?_) (fun c_17924 => ?_)
                · replace hF := hF.trans (if_pos c_17924)
                  have tc_17929 : (x_17794).toInt = 0 := congrArg Int32.toInt c_17924
                  have h_17930 : rg x_17794 0 0 := rg_and h_17893 (rg_of_eq c_17924 (rg_k (0 : Int32) 0 rfl)) (by decide +kernel)
                  have uh_17930 := h_17930.1
                  have vh_17930 := h_17930.2
                  obtain ⟨x_17931, ex_17931⟩ : ∃ y : Int32, y = x_17792 + Int32.ofInt 1 := ⟨_, rfl⟩
                  replace hF := hF.trans (ap_n ex_17931)
                  refine lv_iinc (v := x_17931) (lv' := [(1, .int x_17931), (0, .ref this), (2, .int x_17793), (3, .int x_17794), (4, .int x_17795)]) hx hb dX6_takeWord_148 hl (k := 1) rfl ex_17931.symm (by decide +kernel) rfl (fun ls hl => ?_)
                  refine lv_aload_n hx hb dX6_takeWord_151 rfl (lv_at hl 1 rfl) ?_
                  refine pg_f (v := .int (I_17796 195 this)) (C := RX6) (T := TX6) (N := 6) hx hb hts (tw_i inlX6) hown hK hP hL_this hK_this (by decide +kernel) rfl 3 (by decide +kernel) (hts _ (tw_c tw_667)) rfl dX6_takeWord_152 ?_
                  have h_17932 : rg (I_17796 195 this) 0 300 := GX.rI hG 195 rfl
                  have uh_17932 := h_17932.1
                  have vh_17932 := h_17932.2
                  replace hF := hF.trans (ap_n (vI_e (f := 195) hO_this (by decide +kernel)))
                  refine lv_istore_n (lv' := [(2, .int (I_17796 195 this)), (1, .int x_17931), (0, .ref this), (3, .int x_17794), (4, .int x_17795)]) hx hb dX6_takeWord_155 rfl hl (by decide +kernel) rfl (fun ls hl => ?_)
                  refine lv_iconst (v := 1) hx hb dX6_takeWord_156 (by decide +kernel) ?_
                  refine lv_istore_n (lv' := [(3, .int 1), (2, .int (I_17796 195 this)), (1, .int x_17931), (0, .ref this), (4, .int x_17795)]) hx hb dX6_takeWord_157 rfl hl (by decide +kernel) rfl (fun ls hl => ?_)
                  obtain ⟨x_17934, ex_17934⟩ : ∃ y : Int32, y = x_17795 + Int32.ofInt 1 := ⟨_, rfl⟩
                  replace hF := hF.trans (ap_n ex_17934)
                  have h_17935 : rg x_17934 1 94 := rg_of_eq ex_17934 (rg_add h_17907 (rg_k (Int32.ofInt 1) 1 rfl) (by decide +kernel))
                  have uh_17935 := h_17935.1
                  have vh_17935 := h_17935.2
                  have tx_17934 : (x_17934).toInt = (x_17795).toInt + 1 := by rw [ex_17934]; exact i_add_rg (a2 := (x_17795).toInt) (b2 := 1) rfl rfl h_17907 (rg_k (Int32.ofInt 1) 1 rfl) (by decide +kernel)
                  refine lv_iinc (v := x_17934) (lv' := [(4, .int x_17934), (3, .int 1), (2, .int (I_17796 195 this)), (1, .int x_17931), (0, .ref this)]) hx hb dX6_takeWord_158 hl (k := 4) rfl ex_17934.symm (by decide +kernel) rfl (fun ls hl => ?_)
                  refine lv_goto (tgt := 57) hx hb dX6_takeWord_161 (by decide +kernel) ?_
                  exact ih_17886 x_17931 (I_17796 195 this) (1 : Int32) x_17934 I_17796 _ _ _ (rg_w h_17932 (by decide +kernel)) (rg_w (rg_k (1 : Int32) 1 rfl) (by decide +kernel)) (rg_w h_17935 (by decide +kernel)) (by have k0 : (1 : Int32).toInt = 1 := rfl; omega) (by have k0 : (1 : Int32).toInt = 1 := rfl; omega) (ms_up 1 hm_17883 ex_17934 rfl (by decide +kernel) h_17907 (by decide +kernel) (by decide +kernel)) hF hFr hG hP hD hS (lv_sub hl [4, 3, 2, 1, 0] rfl)
                · replace hF := hF.trans (if_neg c_17924)
                  have tc_17936 : (x_17794).toInt ≠ 0 := fun q => c_17924 (Int32.toInt_inj.mp q)
                  have h_17937 : rg x_17794 1 1 := rg_ne c_17924 h_17893 0 rfl (by decide +kernel)
                  have uh_17937 := h_17937.1
                  have vh_17937 := h_17937.2
                  refine lv_iload_n hx hb dX6_takeWord_132 rfl (lv_at hl 2 rfl) ?_
                  refine lv_aload_n hx hb dX6_takeWord_133 rfl (lv_at hl 0 rfl) ?_
                  refine pg_f (v := .int (I_17796 197 this)) (C := RX6) (T := TX6) (N := 6) hx hb hts (tw_i inlX6) hown hK hP hL_this hK_this (by decide +kernel) rfl 5 (by decide +kernel) (hts _ (tw_c tw_662)) rfl dX6_takeWord_134 ?_
                  have h_17938 : rg (I_17796 197 this) 0 300 := GX.rI hG 197 rfl
                  have uh_17938 := h_17938.1
                  have vh_17938 := h_17938.2
                  replace hF := hF.trans (ap_n (vI_e (f := 197) hO_this (by decide +kernel)))
                  refine lv_icmp_ne (tgt := 148) hx hb dX6_takeWord_137 (by decide +kernel) (fun c_17940 => ?_) (fun c_17940 => ?_)
                  · replace hF := hF.trans (if_neg c_17940)
                    have tc_17944 : (x_17793).toInt ≠ (I_17796 197 this).toInt := fun q => c_17940 (Int32.toInt_inj.mp q)
                    obtain ⟨x_17945, ex_17945⟩ : ∃ y : Int32, y = x_17792 + Int32.ofInt 1 := ⟨_, rfl⟩
                    replace hF := hF.trans (ap_n ex_17945)
                    refine lv_iinc (v := x_17945) (lv' := [(1, .int x_17945), (0, .ref this), (2, .int x_17793), (3, .int x_17794), (4, .int x_17795)]) hx hb dX6_takeWord_148 hl (k := 1) rfl ex_17945.symm (by decide +kernel) rfl (fun ls hl => ?_)
                    refine lv_aload_n hx hb dX6_takeWord_151 rfl (lv_at hl 1 rfl) ?_
                    refine pg_f (v := .int (I_17796 195 this)) (C := RX6) (T := TX6) (N := 6) hx hb hts (tw_i inlX6) hown hK hP hL_this hK_this (by decide +kernel) rfl 3 (by decide +kernel) (hts _ (tw_c tw_667)) rfl dX6_takeWord_152 ?_
                    have h_17946 : rg (I_17796 195 this) 0 300 := GX.rI hG 195 rfl
                    have uh_17946 := h_17946.1
                    have vh_17946 := h_17946.2
                    replace hF := hF.trans (ap_n (vI_e (f := 195) hO_this (by decide +kernel)))
                    refine lv_istore_n (lv' := [(2, .int (I_17796 195 this)), (1, .int x_17945), (0, .ref this), (3, .int x_17794), (4, .int x_17795)]) hx hb dX6_takeWord_155 rfl hl (by decide +kernel) rfl (fun ls hl => ?_)
                    refine lv_iconst (v := 1) hx hb dX6_takeWord_156 (by decide +kernel) ?_
                    refine lv_istore_n (lv' := [(3, .int 1), (2, .int (I_17796 195 this)), (1, .int x_17945), (0, .ref this), (4, .int x_17795)]) hx hb dX6_takeWord_157 rfl hl (by decide +kernel) rfl (fun ls hl => ?_)
                    obtain ⟨x_17948, ex_17948⟩ : ∃ y : Int32, y = x_17795 + Int32.ofInt 1 := ⟨_, rfl⟩
                    replace hF := hF.trans (ap_n ex_17948)
                    have h_17949 : rg x_17948 1 94 := rg_of_eq ex_17948 (rg_add h_17907 (rg_k (Int32.ofInt 1) 1 rfl) (by decide +kernel))
                    have uh_17949 := h_17949.1
                    have vh_17949 := h_17949.2
                    have tx_17948 : (x_17948).toInt = (x_17795).toInt + 1 := by rw [ex_17948]; exact i_add_rg (a2 := (x_17795).toInt) (b2 := 1) rfl rfl h_17907 (rg_k (Int32.ofInt 1) 1 rfl) (by decide +kernel)
                    refine lv_iinc (v := x_17948) (lv' := [(4, .int x_17948), (3, .int 1), (2, .int (I_17796 195 this)), (1, .int x_17945), (0, .ref this)]) hx hb dX6_takeWord_158 hl (k := 4) rfl ex_17948.symm (by decide +kernel) rfl (fun ls hl => ?_)
                    refine lv_goto (tgt := 57) hx hb dX6_takeWord_161 (by decide +kernel) ?_
                    exact ih_17886 x_17945 (I_17796 195 this) (1 : Int32) x_17948 I_17796 _ _ _ (rg_w h_17946 (by decide +kernel)) (rg_w (rg_k (1 : Int32) 1 rfl) (by decide +kernel)) (rg_w h_17949 (by decide +kernel)) (by have k0 : (1 : Int32).toInt = 1 := rfl; omega) (by have k0 : (1 : Int32).toInt = 1 := rfl; omega) (ms_up 1 hm_17883 ex_17948 rfl (by decide +kernel) h_17907 (by decide +kernel) (by decide +kernel)) hF hFr hG hP hD hS (lv_sub hl [4, 3, 2, 1, 0] rfl)
                  · replace hF := hF.trans (if_pos c_17940)
                    have tc_17950 : (x_17793).toInt = (I_17796 197 this).toInt := congrArg Int32.toInt c_17940
                    have h_17951 : rg x_17793 0 300 := rg_and h_17892 (rg_of_eq c_17940 h_17938) (by decide +kernel)
                    have uh_17951 := h_17951.1
                    have vh_17951 := h_17951.2
                    refine lv_aload_n hx hb dX6_takeWord_140 rfl (lv_at hl 0 rfl) ?_
                    refine lv_iload_n hx hb dX6_takeWord_141 rfl (lv_at hl 1 rfl) ?_
                    refine pp_i (v := x_17792) (ty := .int) (C := RX6) (T := TX6) (N := 6) hx hb hts (tw_i inlX6) tyX6 tyX6_ok nmX6 hown hK hP hD hS hL_this hK_this (by decide +kernel) rfl 2 194 (by decide +kernel) (hts _ (tw_c tw_668)) rfl (tyX6_ok 2 (by decide +kernel)) rfl rfl (Nat.le_of_ble_eq_true rfl) (ps_194 _ _ _ _ _) dX6_takeWord_142 (fun I_17952 H locs eI_17952 hP hD hS => ?_)
                    replace hFr := fr_I (f := 194) hFr hO_this (by decide +kernel) eI_17952
                    replace hF := hF.trans (ap_n (vI_st (f := 194) hO_this (by decide +kernel) eI_17952))
                    have hG := GX.wI hG 194 rfl eI_17952 (rg_w (rg_full _) (by decide +kernel)) (by decide +kernel)
                    have tt_17953 : (I_17952 197 this).toInt = (I_17796 197 this).toInt := by rw [eI_17952, pq_uf _ _ _ (by decide +kernel)]
                    have tt_17954 : (I_17952 193 this).toInt = (I_17796 193 this).toInt := by rw [eI_17952, pq_uf _ _ _ (by decide +kernel)]
                    have tt_17955 : (I_17952 194 this).toInt = (x_17792).toInt := by rw [eI_17952, pq_us]
                    refine lv_goto (tgt := 158) hx hb dX6_takeWord_145 (by decide +kernel) ?_
                    obtain ⟨x_17956, ex_17956⟩ : ∃ y : Int32, y = x_17795 + Int32.ofInt 1 := ⟨_, rfl⟩
                    replace hF := hF.trans (ap_n ex_17956)
                    have h_17957 : rg x_17956 1 94 := rg_of_eq ex_17956 (rg_add h_17907 (rg_k (Int32.ofInt 1) 1 rfl) (by decide +kernel))
                    have uh_17957 := h_17957.1
                    have vh_17957 := h_17957.2
                    have tx_17956 : (x_17956).toInt = (x_17795).toInt + 1 := by rw [ex_17956]; exact i_add_rg (a2 := (x_17795).toInt) (b2 := 1) rfl rfl h_17907 (rg_k (Int32.ofInt 1) 1 rfl) (by decide +kernel)
                    refine lv_iinc (v := x_17956) (lv' := [(4, .int x_17956), (0, .ref this), (1, .int x_17792), (2, .int x_17793), (3, .int x_17794)]) hx hb dX6_takeWord_158 hl (k := 4) rfl ex_17956.symm (by decide +kernel) rfl (fun ls hl => ?_)
                    refine lv_goto (tgt := 57) hx hb dX6_takeWord_161 (by decide +kernel) ?_
                    exact ih_17886 x_17792 x_17793 x_17794 x_17956 I_17952 _ _ _ (rg_w h_17951 (by decide +kernel)) (rg_w h_17937 (by decide +kernel)) (rg_w h_17957 (by decide +kernel)) (by omega) (by omega) (ms_up 1 hm_17883 ex_17956 rfl (by decide +kernel) h_17907 (by decide +kernel) (by decide +kernel)) hF hFr hG hP hD hS (lv_sub hl [1, 2, 3, 4, 0] rfl)
              · replace hF := hF.trans (if_neg c_17918)
                have tc_17958 : (x_17916).toInt ≠ 32 := fun q => c_17918 (Int32.toInt_inj.mp q)
                refine lv_iload_n hx hb dX6_takeWord_88 rfl (lv_at hl 3 rfl) ?_
                refine lv_if_eq (tgt := 120) hx hb dX6_takeWord_89 (by decide +kernel) (fun c_17959 => ?_) (fun c_17959 => ?_)
                · replace hF := hF.trans (if_pos c_17959)
                  have tc_17964 : (x_17794).toInt = 0 := congrArg Int32.toInt c_17959
                  have h_17965 : rg x_17794 0 0 := rg_and h_17893 (rg_of_eq c_17959 (rg_k (0 : Int32) 0 rfl)) (by decide +kernel)
                  have uh_17965 := h_17965.1
                  have vh_17965 := h_17965.2
                  refine lv_iconst (v := 0) hx hb dX6_takeWord_120 (by decide +kernel) ?_
                  refine lv_istore_n (lv' := [(3, .int 0), (0, .ref this), (1, .int x_17792), (2, .int x_17793), (4, .int x_17795)]) hx hb dX6_takeWord_121 rfl hl (by decide +kernel) rfl (fun ls hl => ?_)
                  have h_17966 : rg x_17793 0 393 := ⟨by omega, by omega⟩
                  have uh_17966 := h_17966.1
                  have vh_17966 := h_17966.2
                  obtain ⟨x_17967, ex_17967⟩ : ∃ y : Int32, y = x_17793 + Int32.ofInt 1 := ⟨_, rfl⟩
                  replace hF := hF.trans (ap_n ex_17967)
                  have h_17968 : rg x_17967 1 394 := rg_of_eq ex_17967 (rg_add h_17966 (rg_k (Int32.ofInt 1) 1 rfl) (by decide +kernel))
                  have uh_17968 := h_17968.1
                  have vh_17968 := h_17968.2
                  have tx_17967 : (x_17967).toInt = (x_17793).toInt + 1 := by rw [ex_17967]; exact i_add_rg (a2 := (x_17793).toInt) (b2 := 1) rfl rfl h_17966 (rg_k (Int32.ofInt 1) 1 rfl) (by decide +kernel)
                  refine lv_iinc (v := x_17967) (lv' := [(2, .int x_17967), (3, .int 0), (0, .ref this), (1, .int x_17792), (4, .int x_17795)]) hx hb dX6_takeWord_122 hl (k := 3) rfl ex_17967.symm (by decide +kernel) rfl (fun ls hl => ?_)
                  refine lv_goto (tgt := 158) hx hb dX6_takeWord_125 (by decide +kernel) ?_
                  obtain ⟨x_17969, ex_17969⟩ : ∃ y : Int32, y = x_17795 + Int32.ofInt 1 := ⟨_, rfl⟩
                  replace hF := hF.trans (ap_n ex_17969)
                  have h_17970 : rg x_17969 1 94 := rg_of_eq ex_17969 (rg_add h_17907 (rg_k (Int32.ofInt 1) 1 rfl) (by decide +kernel))
                  have uh_17970 := h_17970.1
                  have vh_17970 := h_17970.2
                  have tx_17969 : (x_17969).toInt = (x_17795).toInt + 1 := by rw [ex_17969]; exact i_add_rg (a2 := (x_17795).toInt) (b2 := 1) rfl rfl h_17907 (rg_k (Int32.ofInt 1) 1 rfl) (by decide +kernel)
                  refine lv_iinc (v := x_17969) (lv' := [(4, .int x_17969), (2, .int x_17967), (3, .int 0), (0, .ref this), (1, .int x_17792)]) hx hb dX6_takeWord_158 hl (k := 4) rfl ex_17969.symm (by decide +kernel) rfl (fun ls hl => ?_)
                  refine lv_goto (tgt := 57) hx hb dX6_takeWord_161 (by decide +kernel) ?_
                  exact ih_17886 x_17792 x_17967 (0 : Int32) x_17969 I_17796 _ _ _ (rg_w h_17968 (by decide +kernel)) (rg_w (rg_k (0 : Int32) 0 rfl) (by decide +kernel)) (rg_w h_17970 (by decide +kernel)) (by have k0 : (0 : Int32).toInt = 0 := rfl; omega) (by have k0 : (0 : Int32).toInt = 0 := rfl; omega) (ms_up 1 hm_17883 ex_17969 rfl (by decide +kernel) h_17907 (by decide +kernel) (by decide +kernel)) hF hFr hG hP hD hS (lv_sub hl [3, 4, 1, 2, 0] rfl)
                · replace hF := hF.trans (if_neg c_17959)
                  have tc_17971 : (x_17794).toInt ≠ 0 := fun q => c_17959 (Int32.toInt_inj.mp q)
                  have h_17972 : rg x_17794 1 1 := rg_ne c_17959 h_17893 0 rfl (by decide +kernel)
                  have uh_17972 := h_17972.1
                  have vh_17972 := h_17972.2
                  refine lv_iload_n hx hb dX6_takeWord_92 rfl (lv_at hl 2 rfl) ?_
                  refine lv_aload_n hx hb dX6_takeWord_93 rfl (lv_at hl 0 rfl) ?_
                  refine pg_f (v := .int (I_17796 197 this)) (C := RX6) (T := TX6) (N := 6) hx hb hts (tw_i inlX6) hown hK hP hL_this hK_this (by decide +kernel) rfl 5 (by decide +kernel) (hts _ (tw_c tw_662)) rfl dX6_takeWord_94 ?_
                  have h_17973 : rg (I_17796 197 this) 0 300 := GX.rI hG 197 rfl
                  have uh_17973 := h_17973.1
                  have vh_17973 := h_17973.2
                  replace hF := hF.trans (ap_n (vI_e (f := 197) hO_this (by decide +kernel)))
                  refine lv_icmp_ge (tgt := 120) hx hb dX6_takeWord_97 (by decide +kernel) (fun c_17975 => ?_) (fun c_17975 => ?_)
                  · replace hF := hF.trans (if_pos c_17975)
                    have tc_17980 : (I_17796 197 this).toInt ≤ (x_17793).toInt := Int32.le_iff_toInt_le.mp c_17975
                    refine lv_iconst (v := 0) hx hb dX6_takeWord_120 (by decide +kernel) ?_
                    refine lv_istore_n (lv' := [(3, .int 0), (0, .ref this), (1, .int x_17792), (2, .int x_17793), (4, .int x_17795)]) hx hb dX6_takeWord_121 rfl hl (by decide +kernel) rfl (fun ls hl => ?_)
                    have h_17981 : rg x_17793 0 393 := ⟨by omega, by omega⟩
                    have uh_17981 := h_17981.1
                    have vh_17981 := h_17981.2
                    obtain ⟨x_17982, ex_17982⟩ : ∃ y : Int32, y = x_17793 + Int32.ofInt 1 := ⟨_, rfl⟩
                    replace hF := hF.trans (ap_n ex_17982)
                    have h_17983 : rg x_17982 1 394 := rg_of_eq ex_17982 (rg_add h_17981 (rg_k (Int32.ofInt 1) 1 rfl) (by decide +kernel))
                    have uh_17983 := h_17983.1
                    have vh_17983 := h_17983.2
                    have tx_17982 : (x_17982).toInt = (x_17793).toInt + 1 := by rw [ex_17982]; exact i_add_rg (a2 := (x_17793).toInt) (b2 := 1) rfl rfl h_17981 (rg_k (Int32.ofInt 1) 1 rfl) (by decide +kernel)
                    refine lv_iinc (v := x_17982) (lv' := [(2, .int x_17982), (3, .int 0), (0, .ref this), (1, .int x_17792), (4, .int x_17795)]) hx hb dX6_takeWord_122 hl (k := 3) rfl ex_17982.symm (by decide +kernel) rfl (fun ls hl => ?_)
                    refine lv_goto (tgt := 158) hx hb dX6_takeWord_125 (by decide +kernel) ?_
                    obtain ⟨x_17984, ex_17984⟩ : ∃ y : Int32, y = x_17795 + Int32.ofInt 1 := ⟨_, rfl⟩
                    replace hF := hF.trans (ap_n ex_17984)
                    have h_17985 : rg x_17984 1 94 := rg_of_eq ex_17984 (rg_add h_17907 (rg_k (Int32.ofInt 1) 1 rfl) (by decide +kernel))
                    have uh_17985 := h_17985.1
                    have vh_17985 := h_17985.2
                    have tx_17984 : (x_17984).toInt = (x_17795).toInt + 1 := by rw [ex_17984]; exact i_add_rg (a2 := (x_17795).toInt) (b2 := 1) rfl rfl h_17907 (rg_k (Int32.ofInt 1) 1 rfl) (by decide +kernel)
                    refine lv_iinc (v := x_17984) (lv' := [(4, .int x_17984), (2, .int x_17982), (3, .int 0), (0, .ref this), (1, .int x_17792)]) hx hb dX6_takeWord_158 hl (k := 4) rfl ex_17984.symm (by decide +kernel) rfl (fun ls hl => ?_)
                    refine lv_goto (tgt := 57) hx hb dX6_takeWord_161 (by decide +kernel) ?_
                    exact ih_17886 x_17792 x_17982 (0 : Int32) x_17984 I_17796 _ _ _ (rg_w h_17983 (by decide +kernel)) (rg_w (rg_k (0 : Int32) 0 rfl) (by decide +kernel)) (rg_w h_17985 (by decide +kernel)) (by have k0 : (0 : Int32).toInt = 0 := rfl; omega) (by have k0 : (0 : Int32).toInt = 0 := rfl; omega) (ms_up 1 hm_17883 ex_17984 rfl (by decide +kernel) h_17907 (by decide +kernel) (by decide +kernel)) hF hFr hG hP hD hS (lv_sub hl [3, 4, 1, 2, 0] rfl)
                  · replace hF := hF.trans (if_neg c_17975)
                    have tc_17986 : (x_17793).toInt < (I_17796 197 this).toInt := Int32.lt_iff_toInt_lt.mp (nle c_17975)
                    have h_17987 : rg x_17793 0 299 := rg_lt1 (nle c_17975) h_17892 h_17973 (by decide +kernel)
                    have uh_17987 := h_17987.1
                    have vh_17987 := h_17987.2
                    have h_17988 : rg (I_17796 197 this) 1 300 := rg_lt2 (nle c_17975) h_17892 h_17973 (by decide +kernel)
                    have uh_17988 := h_17988.1
                    have vh_17988 := h_17988.2
                    refine lv_aload_n hx hb dX6_takeWord_100 rfl (lv_at hl 0 rfl) ?_
                    refine pg_f (v := .ref this_tape) (C := RX6) (T := TX6) (N := 6) hx hb hts (tw_i inlX6) hown hK hP hL_this hK_this (by decide +kernel) rfl 0 (by decide +kernel) (hts _ (tw_c tw_165)) (pq_hv rfl hR_this_tape) dX6_takeWord_101 ?_
                    refine lv_iload_n hx hb dX6_takeWord_104 rfl (lv_at hl 2 rfl) ?_
                    refine pl_i hx hb hK hP hL_this_tape hK_this_tape hN_this_tape (rg_in h_17987 (by decide +kernel)) dX6_takeWord_105 ?_
                    refine lv_topi (fun x_17989 ex_17989 => ?_)
                    replace hF := hF.trans (ap_n (vR_r hO_this_tape (by decide +kernel) ex_17989))
                    refine va_ldcS hx hb hown hW0.2.2.2.2.2.2.2 dX6_takeWord_106 ?_
                    refine lv_iload hx hb dX6_takeWord_108 (lv_at hl 4 rfl) ?_
                    refine pk_i (va_runV (As := [.int x_17795]) (rest := [.int x_17989]) ⟨hx, hb, hml, hown, hts⟩ (s_J0_charAt l D t σ I_17796 J ri rj rq H.size aK aV vF x_17795 (Int32.not_lt.mpr (Int32.le_iff_toInt_le.mpr (by have z8 := (h_17907).1; have z9 : (0 : Int32).toInt = 0 := rfl; omega))) (Int32.lt_iff_toInt_lt.mpr (by have z8 := (h_17907).2; have z9 : (94 : Int32).toInt = 94 := rfl; omega))) (cwV 1 hts (tw_V tw_697 tw_698 tw_699 tw_688 tw_700) rfl rfl rfl cv_yJ0_charAt_5068e_1 ⟨Nat.le_of_ble_eq_true rfl, Nat.le_of_ble_eq_true rfl⟩) ⟨pq_blindS, pq_recvS hW0 hS, pq_preS hK hN hP hD hS hA hW0⟩ rfl rfl hl.1 rfl (lv_room (Nat.le_of_ble_eq_true rfl)) dX6_takeWord_110 ⟨Nat.le_of_ble_eq_true rfl, Nat.le_of_ble_eq_true rfl⟩) hD hS hA (fun x_17990 σ1 μ1 H locs hw_17991 hP hD hS => ?_)
                    obtain ⟨hux_17990, hcx_17990, hvx_17990⟩ := hw_17991
                    obtain ⟨huax_17990, hubx_17990⟩ := Prod.mk.inj hux_17990
                    rw [huax_17990, hubx_17990] at hP hD
                    replace hF := hF.trans (ap_n hcx_17990)
                    refine lv_icmp_ne (tgt := 120) hx hb dX6_takeWord_113 (by decide +kernel) (fun c_17992 => ?_) (fun c_17992 => ?_)
                    · replace hF := hF.trans (if_neg c_17992)
                      have tc_17995 : (x_17989).toInt ≠ (x_17990).toInt := fun q => c_17992 (Int32.toInt_inj.mp q)
                      refine lv_iconst (v := 0) hx hb dX6_takeWord_120 (by decide +kernel) ?_
                      refine lv_istore_n (lv' := [(3, .int 0), (0, .ref this), (1, .int x_17792), (2, .int x_17793), (4, .int x_17795)]) hx hb dX6_takeWord_121 rfl hl (by decide +kernel) rfl (fun ls hl => ?_)
                      obtain ⟨x_17996, ex_17996⟩ : ∃ y : Int32, y = x_17793 + Int32.ofInt 1 := ⟨_, rfl⟩
                      replace hF := hF.trans (ap_n ex_17996)
                      have h_17997 : rg x_17996 1 300 := rg_of_eq ex_17996 (rg_add h_17987 (rg_k (Int32.ofInt 1) 1 rfl) (by decide +kernel))
                      have uh_17997 := h_17997.1
                      have vh_17997 := h_17997.2
                      have tx_17996 : (x_17996).toInt = (x_17793).toInt + 1 := by rw [ex_17996]; exact i_add_rg (a2 := (x_17793).toInt) (b2 := 1) rfl rfl h_17987 (rg_k (Int32.ofInt 1) 1 rfl) (by decide +kernel)
                      refine lv_iinc (v := x_17996) (lv' := [(2, .int x_17996), (3, .int 0), (0, .ref this), (1, .int x_17792), (4, .int x_17795)]) hx hb dX6_takeWord_122 hl (k := 3) rfl ex_17996.symm (by decide +kernel) rfl (fun ls hl => ?_)
                      refine lv_goto (tgt := 158) hx hb dX6_takeWord_125 (by decide +kernel) ?_
                      obtain ⟨x_17998, ex_17998⟩ : ∃ y : Int32, y = x_17795 + Int32.ofInt 1 := ⟨_, rfl⟩
                      replace hF := hF.trans (ap_n ex_17998)
                      have h_17999 : rg x_17998 1 94 := rg_of_eq ex_17998 (rg_add h_17907 (rg_k (Int32.ofInt 1) 1 rfl) (by decide +kernel))
                      have uh_17999 := h_17999.1
                      have vh_17999 := h_17999.2
                      have tx_17998 : (x_17998).toInt = (x_17795).toInt + 1 := by rw [ex_17998]; exact i_add_rg (a2 := (x_17795).toInt) (b2 := 1) rfl rfl h_17907 (rg_k (Int32.ofInt 1) 1 rfl) (by decide +kernel)
                      refine lv_iinc (v := x_17998) (lv' := [(4, .int x_17998), (2, .int x_17996), (3, .int 0), (0, .ref this), (1, .int x_17792)]) hx hb dX6_takeWord_158 hl (k := 4) rfl ex_17998.symm (by decide +kernel) rfl (fun ls hl => ?_)
                      refine lv_goto (tgt := 57) hx hb dX6_takeWord_161 (by decide +kernel) ?_
                      exact ih_17886 x_17792 x_17996 (0 : Int32) x_17998 I_17796 _ _ _ (rg_w h_17997 (by decide +kernel)) (rg_w (rg_k (0 : Int32) 0 rfl) (by decide +kernel)) (rg_w h_17999 (by decide +kernel)) (by have k0 : (0 : Int32).toInt = 0 := rfl; omega) (by have k0 : (0 : Int32).toInt = 0 := rfl; omega) (ms_up 1 hm_17883 ex_17998 rfl (by decide +kernel) h_17907 (by decide +kernel) (by decide +kernel)) hF hFr hG hP hD hS (lv_sub hl [3, 4, 1, 2, 0] rfl)
                    · replace hF := hF.trans (if_pos c_17992)
                      have tc_18000 : (x_17989).toInt = (x_17990).toInt := congrArg Int32.toInt c_17992
                      refine lv_iconst (v := 1) hx hb dX6_takeWord_116 (by decide +kernel) ?_
                      refine lv_goto (tgt := 121) hx hb dX6_takeWord_117 (by decide +kernel) ?_
                      refine lv_istore_n (lv' := [(3, .int 1), (0, .ref this), (1, .int x_17792), (2, .int x_17793), (4, .int x_17795)]) hx hb dX6_takeWord_121 rfl hl (by decide +kernel) rfl (fun ls hl => ?_)
                      obtain ⟨x_18001, ex_18001⟩ : ∃ y : Int32, y = x_17793 + Int32.ofInt 1 := ⟨_, rfl⟩
                      replace hF := hF.trans (ap_n ex_18001)
                      have h_18002 : rg x_18001 1 300 := rg_of_eq ex_18001 (rg_add h_17987 (rg_k (Int32.ofInt 1) 1 rfl) (by decide +kernel))
                      have uh_18002 := h_18002.1
                      have vh_18002 := h_18002.2
                      have tx_18001 : (x_18001).toInt = (x_17793).toInt + 1 := by rw [ex_18001]; exact i_add_rg (a2 := (x_17793).toInt) (b2 := 1) rfl rfl h_17987 (rg_k (Int32.ofInt 1) 1 rfl) (by decide +kernel)
                      refine lv_iinc (v := x_18001) (lv' := [(2, .int x_18001), (3, .int 1), (0, .ref this), (1, .int x_17792), (4, .int x_17795)]) hx hb dX6_takeWord_122 hl (k := 3) rfl ex_18001.symm (by decide +kernel) rfl (fun ls hl => ?_)
                      refine lv_goto (tgt := 158) hx hb dX6_takeWord_125 (by decide +kernel) ?_
                      obtain ⟨x_18003, ex_18003⟩ : ∃ y : Int32, y = x_17795 + Int32.ofInt 1 := ⟨_, rfl⟩
                      replace hF := hF.trans (ap_n ex_18003)
                      have h_18004 : rg x_18003 1 94 := rg_of_eq ex_18003 (rg_add h_17907 (rg_k (Int32.ofInt 1) 1 rfl) (by decide +kernel))
                      have uh_18004 := h_18004.1
                      have vh_18004 := h_18004.2
                      have tx_18003 : (x_18003).toInt = (x_17795).toInt + 1 := by rw [ex_18003]; exact i_add_rg (a2 := (x_17795).toInt) (b2 := 1) rfl rfl h_17907 (rg_k (Int32.ofInt 1) 1 rfl) (by decide +kernel)
                      refine lv_iinc (v := x_18003) (lv' := [(4, .int x_18003), (2, .int x_18001), (3, .int 1), (0, .ref this), (1, .int x_17792)]) hx hb dX6_takeWord_158 hl (k := 4) rfl ex_18003.symm (by decide +kernel) rfl (fun ls hl => ?_)
                      refine lv_goto (tgt := 57) hx hb dX6_takeWord_161 (by decide +kernel) ?_
                      exact ih_17886 x_17792 x_18001 (1 : Int32) x_18003 I_17796 _ _ _ (rg_w h_18002 (by decide +kernel)) (rg_w (rg_k (1 : Int32) 1 rfl) (by decide +kernel)) (rg_w h_18004 (by decide +kernel)) (by have k0 : (1 : Int32).toInt = 1 := rfl; omega) (by have k0 : (1 : Int32).toInt = 1 := rfl; omega) (ms_up 1 hm_17883 ex_18003 rfl (by decide +kernel) h_17907 (by decide +kernel) (by decide +kernel)) hF hFr hG hP hD hS (lv_sub hl [3, 4, 1, 2, 0] rfl)
      exact L_17885 _ (0 : Int32) (I_15435 195 this) (1 : Int32) (0 : Int32) I_15435 _ _ _ (rg_w h_15439 (by decide +kernel)) (rg_w (rg_k (1 : Int32) 1 rfl) (by decide +kernel)) (rg_w (rg_k (0 : Int32) 0 rfl) (by decide +kernel)) (by have k0 : (0 : Int32).toInt = 0 := rfl; have k1 : (1 : Int32).toInt = 1 := rfl; omega) (by have k0 : (0 : Int32).toInt = 0 := rfl; have k1 : (1 : Int32).toInt = 1 := rfl; omega) (Nat.lt_succ_self _) hF hFr hG hP hD hS (lv_sub hl [4, 3, 2, 1, 0] rfl)
    refine lv_icmp_ge (tgt := 39) hx hb dX6_takeWord_8 (by decide +kernel) (fun c_18005 => ?_) (fun c_18005 => ?_)
    · replace hF := hF.trans (if_pos c_18005)
      have tc_18010 : (I 193 this).toInt ≤ (I 197 this).toInt := Int32.le_iff_toInt_le.mp c_18005
      exact K_15432 _ _ _ (by omega) hF hFr hG hP hD hS (lv_sub hl [0] rfl)
    · replace hF := hF.trans (if_neg c_18005)
      have tc_18011 : (I 197 this).toInt < (I 193 this).toInt := Int32.lt_iff_toInt_lt.mp (nle c_18005)
      have h_18012 : rg (I 197 this) 0 299 := rg_lt1 (nle c_18005) h_1 h_3 (by decide +kernel)
      have uh_18012 := h_18012.1
      have vh_18012 := h_18012.2
      have h_18013 : rg (I 193 this) 1 300 := rg_lt2 (nle c_18005) h_1 h_3 (by decide +kernel)
      have uh_18013 := h_18013.1
      have vh_18013 := h_18013.2
      refine lv_aload_n hx hb dX6_takeWord_11 rfl (lv_at hl 0 rfl) ?_
      refine pg_f (v := .ref this_tape) (C := RX6) (T := TX6) (N := 6) hx hb hts (tw_i inlX6) hown hK hP hL_this hK_this (by decide +kernel) rfl 0 (by decide +kernel) (hts _ (tw_c tw_165)) (pq_hv rfl hR_this_tape) dX6_takeWord_12 ?_
      refine lv_aload_n hx hb dX6_takeWord_15 rfl (lv_at hl 0 rfl) ?_
      refine pg_f (v := .int (I 197 this)) (C := RX6) (T := TX6) (N := 6) hx hb hts (tw_i inlX6) hown hK hP hL_this hK_this (by decide +kernel) rfl 5 (by decide +kernel) (hts _ (tw_c tw_662)) rfl dX6_takeWord_16 ?_
      refine pl_i hx hb hK hP hL_this_tape hK_this_tape hN_this_tape (rg_in h_18012 (by decide +kernel)) dX6_takeWord_19 ?_
      refine lv_topi (fun x_18014 ex_18014 => ?_)
      replace hF := hF.trans (ap_n (vR_r hO_this_tape (by decide +kernel) ex_18014))
      have tt_18015 : (I 197 this).toInt = (I 197 this).toInt → (x_18014).toInt = (ri this_tape (I 197 this).toNatClampNeg).toInt := fun q => by rw [ex_18014, Int32.toInt_inj.mp q]
      refine pk_i (va_runS (As := [.int x_18014]) (rest := []) ⟨hx, hb, hml, hown, hts⟩ (s_X6_isLetter_x l D t σ I J ri rj rq H.size tg hSH hG.1 x_18014) (va_cwS 1 hts (tw_S tw_678 tw_679 tw_153 tw_680) rfl rfl rfl cd_yX6_isLetter_1 ⟨Nat.le_of_ble_eq_true rfl, Nat.le_of_ble_eq_true rfl⟩) ⟨pq_blind, pq_pre hK hN hP hD⟩ rfl rfl hl.1 rfl (lv_room (Nat.le_of_ble_eq_true rfl)) dX6_takeWord_20 ⟨Nat.le_of_ble_eq_true rfl, Nat.le_of_ble_eq_true rfl⟩) hD hS hA (fun x_18016 σ1 μ1 H locs hw_18017 hP hD hS => ?_)
      obtain ⟨hu_18018, hfn_18021, hr_18020⟩ := hw_18017
      obtain ⟨hu_18018a, hu_18018b⟩ := Prod.mk.inj hu_18018
      rw [hu_18018a, hu_18018b] at hP hD
      replace hF := hF.trans (ap_n hfn_18021.symm)
      have h_18023 : rg x_18016 0 1 := by rcases hr_18020 with ⟨q, -⟩ | ⟨q, -⟩ <;> rw [q] <;> exact ⟨by decide +kernel, by decide +kernel⟩
      have uh_18023 := h_18023.1
      have vh_18023 := h_18023.2
      refine lv_if_eq (tgt := 39) hx hb dX6_takeWord_23 (by decide +kernel) (fun c_18024 => ?_) (fun c_18024 => ?_)
      · replace hF := hF.trans (if_pos c_18024)
        have f_18032 := (hr_18020.resolve_left (fun q => absurd (q.1.symm.trans c_18024) (by decide +kernel))).2
        have tc_18033 : (x_18016).toInt = 0 := congrArg Int32.toInt c_18024
        have h_18034 : rg x_18016 0 0 := rg_and h_18023 (rg_of_eq c_18024 (rg_k (0 : Int32) 0 rfl)) (by decide +kernel)
        have uh_18034 := h_18034.1
        have vh_18034 := h_18034.2
        exact K_15432 _ _ _ (by omega) hF hFr hG hP hD hS (lv_sub hl [0] rfl)
      · replace hF := hF.trans (if_neg c_18024)
        obtain ⟨f_18035, f_18036⟩ := (hr_18020.resolve_right (fun q => c_18024 q.1)).2
        have uf_18035 := f_18035.1
        have vf_18035 := f_18035.2
        have tc_18037 : (x_18016).toInt ≠ 0 := fun q => c_18024 (Int32.toInt_inj.mp q)
        have h_18038 : rg x_18016 1 1 := rg_ne c_18024 h_18023 0 rfl (by decide +kernel)
        have uh_18038 := h_18038.1
        have vh_18038 := h_18038.2
        refine lv_aload_n hx hb dX6_takeWord_26 rfl (lv_at hl 0 rfl) ?_
        refine lv_dup hx hb dX6_takeWord_27 rfl ?_
        refine pg_f (v := .int (I 197 this)) (C := RX6) (T := TX6) (N := 6) hx hb hts (tw_i inlX6) hown hK hP hL_this hK_this (by decide +kernel) rfl 5 (by decide +kernel) (hts _ (tw_c tw_662)) rfl dX6_takeWord_28 ?_
        refine lv_iconst (v := 1) hx hb dX6_takeWord_31 (by decide +kernel) ?_
        refine lv_iadd hx hb dX6_takeWord_32 ?_
        refine lv_topi (fun x_18039 ex_18039 => ?_)
        replace hF := hF.trans (ap_n ex_18039)
        have h_18040 : rg x_18039 1 300 := rg_of_eq ex_18039 (rg_add h_18012 (rg_k (1 : Int32) 1 rfl) (by decide +kernel))
        have uh_18040 := h_18040.1
        have vh_18040 := h_18040.2
        have tx_18039 : (x_18039).toInt = (I 197 this).toInt + 1 := by rw [ex_18039]; exact i_add_rg (a2 := (I 197 this).toInt) (b2 := 1) rfl rfl h_18012 (rg_k (1 : Int32) 1 rfl) (by decide +kernel)
        refine pp_i (v := x_18039) (ty := .int) (C := RX6) (T := TX6) (N := 6) hx hb hts (tw_i inlX6) tyX6 tyX6_ok nmX6 hown hK hP hD hS hL_this hK_this (by decide +kernel) rfl 5 197 (by decide +kernel) (hts _ (tw_c tw_662)) rfl (tyX6_ok 5 (by decide +kernel)) rfl rfl (Nat.le_of_ble_eq_true rfl) (ps_197 _ _ _ _ _) dX6_takeWord_33 (fun I_18041 H locs eI_18041 hP hD hS => ?_)
        replace hFr := fr_I (f := 197) hFr hO_this (by decide +kernel) eI_18041
        replace hF := hF.trans (ap_n (vI_st (f := 197) hO_this (by decide +kernel) eI_18041))
        have hG := GX.wI hG 197 rfl eI_18041 (rg_w h_18040 (by decide +kernel)) (by decide +kernel)
        have tt_18042 : (I_18041 197 this).toInt = (x_18039).toInt := by rw [eI_18041, pq_us]
        have tt_18043 : (I_18041 193 this).toInt = (I 193 this).toInt := by rw [eI_18041, pq_uf _ _ _ (by decide +kernel)]
        have tt_18044 : (I_18041 194 this).toInt = (I 194 this).toInt := by rw [eI_18041, pq_uf _ _ _ (by decide +kernel)]
        refine lv_goto (tgt := 0) hx hb dX6_takeWord_36 (by decide +kernel) ?_
        have L_28335 : ∀ (n_28334 : Nat) (I_25761 : Nat → Nat → Int32) (H : Heap) (locs : List Loc) (ls : Array Slot), ((I 197 this).toInt ≤ (I_25761 197 this).toInt ∧ (I_25761 193 this).toInt = (I 193 this).toInt) → (300 - (I_25761 197 this).toInt).toNat < n_28334 → F = g_X6_takeWord_L0 (vJ 4 σ M J) (vR 4 σ M ri) (vL 4 σ M rj) (vQ 4 σ M rq) n_28334 (vI 4 σ M I_25761) → FR 4 tg σ M (I, J, ri, rj, rq) (I_25761, J, ri, rj, rq) → GX [197, 194] tg σ I ri rj I_25761 ri rj rq → va_P D vwCl (pq_P t σ (I_25761, J, ri, rj, rq)) H → va_D A (pq_P t σ (I_25761, J, ri, rj, rq)) → va_S A s.heap H locs → lv_has ls 5 [(0, .ref this)] → W p l e ({ frames := 4, cells := 0, slots := 0, locals := 85 } : Room) s m (List.toArray ([.ref this] : List Value)) below meth c H locs 0 0 Q (F0 m 0 ls []) := by
          intro n_28334
          induction n_28334 with
          | zero => intro I_25761 H locs ls hrel_28338 hm_28333 hF hFr hG hP hD hS hl; exact absurd hm_28333 (Nat.not_lt_zero _)
          | succ n_28334 ih_28336 =>
            intro I_25761 H locs ls hrel_28338 hm_28333 hF hFr hG hP hD hS hl
            replace hF := hF.trans g_X6_takeWord_L0_e
            refine lv_aload_n hx hb dX6_takeWord_0 rfl (lv_at hl 0 rfl) ?_
            refine pg_f (v := .int (I_25761 197 this)) (C := RX6) (T := TX6) (N := 6) hx hb hts (tw_i inlX6) hown hK hP hL_this hK_this (by decide +kernel) rfl 5 (by decide +kernel) (hts _ (tw_c tw_662)) rfl dX6_takeWord_1 ?_
            have h_28339 : rg (I_25761 197 this) 0 300 := GX.rI hG 197 rfl
            have uh_28339 := h_28339.1
            have vh_28339 := h_28339.2
            replace hF := hF.trans (ap_n (vI_e (f := 197) hO_this (by decide +kernel)))
            refine lv_aload_n hx hb dX6_takeWord_4 rfl (lv_at hl 0 rfl) ?_
            refine pg_f (v := .int (I_25761 193 this)) (C := RX6) (T := TX6) (N := 6) hx hb hts (tw_i inlX6) hown hK hP hL_this hK_this (by decide +kernel) rfl 1 (by decide +kernel) (hts _ (tw_c tw_626)) rfl dX6_takeWord_5 ?_
            have h_28341 : rg (I_25761 193 this) 1 300 := (by rw [hG.2.1 193 (by decide +kernel) (by decide +kernel)]; exact h_18013)
            have uh_28341 := h_28341.1
            have vh_28341 := h_28341.2
            replace hF := hF.trans (ap_n (vI_e (f := 193) hO_this (by decide +kernel)))
            have K_30909 : ∀  (H : Heap) (locs : List Loc) (ls : Array Slot), ((I 197 this).toInt + 1 ≤ (I_25761 197 this).toInt) → F = g_X6_takeWord_K39_2 (vJ 4 σ M J) (vR 4 σ M ri) (vL 4 σ M rj) (vQ 4 σ M rq) (vI 4 σ M I_25761)  → FR 4 tg σ M (I, J, ri, rj, rq) (I_25761, J, ri, rj, rq) → GX [197, 194] tg σ I ri rj I_25761 ri rj rq → va_P D vwCl (pq_P t σ (I_25761, J, ri, rj, rq)) H → va_D A (pq_P t σ (I_25761, J, ri, rj, rq)) → va_S A s.heap H locs → lv_has ls 5 [(0, .ref this)] → W p l e ({ frames := 4, cells := 0, slots := 0, locals := 85 } : Room) s m (List.toArray ([.ref this] : List Value)) below meth c H locs 0 0 Q (F0 m 39 ls []) := by
              intro H locs ls hrel_30911 hF hFr hG hP hD hS hl
              replace hF := hF.trans g_X6_takeWord_K39_2_e
              refine lv_aload_n hx hb dX6_takeWord_39 rfl (lv_at hl 0 rfl) ?_
              refine lv_bipush (v := 34) hx hb dX6_takeWord_40 (by decide +kernel) ?_
              refine pp_i (v := 34) (ty := .int) (C := RX6) (T := TX6) (N := 6) hx hb hts (tw_i inlX6) tyX6 tyX6_ok nmX6 hown hK hP hD hS hL_this hK_this (by decide +kernel) rfl 2 194 (by decide +kernel) (hts _ (tw_c tw_668)) rfl (tyX6_ok 2 (by decide +kernel)) rfl rfl (Nat.le_of_ble_eq_true rfl) (ps_194 _ _ _ _ _) dX6_takeWord_42 (fun I_30912 H locs eI_30912 hP hD hS => ?_)
              replace hFr := fr_I (f := 194) hFr hO_this (by decide +kernel) eI_30912
              replace hF := hF.trans (ap_n (vI_st (f := 194) hO_this (by decide +kernel) eI_30912))
              have hG := GX.wI hG 194 rfl eI_30912 (rg_w (rg_k (34 : Int32) 34 rfl) (by decide +kernel)) (by decide +kernel)
              have tt_30913 : (I_30912 197 this).toInt = (I_25761 197 this).toInt := by rw [eI_30912, pq_uf _ _ _ (by decide +kernel)]
              have tt_30914 : (I_30912 193 this).toInt = (I_25761 193 this).toInt := by rw [eI_30912, pq_uf _ _ _ (by decide +kernel)]
              have tt_30915 : (I_30912 194 this).toInt = 34 := by rw [eI_30912, pq_us]; rfl
              refine lv_iconst (v := 0) hx hb dX6_takeWord_45 (by decide +kernel) ?_
              refine lv_istore_n (lv' := [(1, .int 0), (0, .ref this)]) hx hb dX6_takeWord_46 rfl hl (by decide +kernel) rfl (fun ls hl => ?_)
              refine lv_aload_n hx hb dX6_takeWord_47 rfl (lv_at hl 1 rfl) ?_
              refine pg_f (v := .int (I_30912 195 this)) (C := RX6) (T := TX6) (N := 6) hx hb hts (tw_i inlX6) hown hK hP hL_this hK_this (by decide +kernel) rfl 3 (by decide +kernel) (hts _ (tw_c tw_667)) rfl dX6_takeWord_48 ?_
              have h_30916 : rg (I_30912 195 this) 0 300 := GX.rI hG 195 rfl
              have uh_30916 := h_30916.1
              have vh_30916 := h_30916.2
              replace hF := hF.trans (ap_n (vI_e (f := 195) hO_this (by decide +kernel)))
              refine lv_istore_n (lv' := [(2, .int (I_30912 195 this)), (1, .int 0), (0, .ref this)]) hx hb dX6_takeWord_51 rfl hl (by decide +kernel) rfl (fun ls hl => ?_)
              refine lv_iconst (v := 1) hx hb dX6_takeWord_52 (by decide +kernel) ?_
              refine lv_istore_n (lv' := [(3, .int 1), (2, .int (I_30912 195 this)), (1, .int 0), (0, .ref this)]) hx hb dX6_takeWord_53 rfl hl (by decide +kernel) rfl (fun ls hl => ?_)
              refine lv_iconst (v := 0) hx hb dX6_takeWord_54 (by decide +kernel) ?_
              refine lv_istore (lv' := [(4, .int 0), (3, .int 1), (2, .int (I_30912 195 this)), (1, .int 0), (0, .ref this)]) hx hb dX6_takeWord_55 hl (by decide +kernel) rfl (fun ls hl => ?_)
              have L_33362 : ∀ (n_33361 : Nat) (x_33269 : Int32) (x_33270 : Int32) (x_33271 : Int32) (x_33272 : Int32) (I_33273 : Nat → Nat → Int32) (H : Heap) (locs : List Loc) (ls : Array Slot), rg x_33270 0 394 → rg x_33271 0 1 → rg x_33272 0 94 → ((I 197 this).toInt + 1 ≤ (I_33273 197 this).toInt) → (0 ≤ (x_33270).toInt ∧ (x_33270).toInt ≤ 300 + (x_33272).toInt) → (94 - (x_33272).toInt).toNat < n_33361 → F = g_X6_takeWord_L57_2 (vJ 4 σ M J) (vR 4 σ M ri) (vL 4 σ M rj) (vQ 4 σ M rq) n_33361 x_33269 x_33270 x_33271 x_33272 (vI 4 σ M I_33273) → FR 4 tg σ M (I, J, ri, rj, rq) (I_33273, J, ri, rj, rq) → GX [197, 194] tg σ I ri rj I_33273 ri rj rq → va_P D vwCl (pq_P t σ (I_33273, J, ri, rj, rq)) H → va_D A (pq_P t σ (I_33273, J, ri, rj, rq)) → va_S A s.heap H locs → lv_has ls 5 [(0, .ref this), (1, .int x_33269), (2, .int x_33270), (3, .int x_33271), (4, .int x_33272)] → W p l e ({ frames := 4, cells := 0, slots := 0, locals := 85 } : Room) s m (List.toArray ([.ref this] : List Value)) below meth c H locs 0 0 Q (F0 m 57 ls []) := by
                intro n_33361
                induction n_33361 with
                | zero => intro x_33269 x_33270 x_33271 x_33272 I_33273 H locs ls h_33369 h_33370 h_33371 hrel_33372 hrel_33373 hm_33360 hF hFr hG hP hD hS hl; exact absurd hm_33360 (Nat.not_lt_zero _)
                | succ n_33361 ih_33363 =>
                  intro x_33269 x_33270 x_33271 x_33272 I_33273 H locs ls h_33369 h_33370 h_33371 hrel_33372 hrel_33373 hm_33360 hF hFr hG hP hD hS hl
                  have uh_33369 := h_33369.1
                  have vh_33369 := h_33369.2
                  have uh_33370 := h_33370.1
                  have vh_33370 := h_33370.2
                  have uh_33371 := h_33371.1
                  have vh_33371 := h_33371.2
                  replace hF := hF.trans g_X6_takeWord_L57_2_e
                  refine lv_iload hx hb dX6_takeWord_57 (lv_at hl 4 rfl) ?_
                  refine va_ldcS hx hb hown hW0.2.2.2.2.2.2.2 dX6_takeWord_59 ?_
                  refine pk_i (va_runV (As := []) (rest := [.int x_33272]) ⟨hx, hb, hml, hown, hts⟩ (s_J0_length l D t σ I_33273 J ri rj rq H.size aK aV vF ) (cwV 0 hts (tw_V tw_685 tw_686 tw_687 tw_688 tw_689) rfl rfl rfl cv_yJ0_length_8abf5_0 ⟨Nat.le_of_ble_eq_true rfl, Nat.le_of_ble_eq_true rfl⟩) ⟨pq_blindS, pq_recvS hW0 hS, pq_preS hK hN hP hD hS hA hW0⟩ rfl rfl hl.1 rfl (lv_room (Nat.le_of_ble_eq_true rfl)) dX6_takeWord_61 ⟨Nat.le_of_ble_eq_true rfl, Nat.le_of_ble_eq_true rfl⟩) hD hS hA (fun x_33374 σ1 μ1 H locs hw_33375 hP hD hS => ?_)
                  obtain ⟨hux_33374, hvx_33374⟩ := hw_33375
                  obtain ⟨huax_33374, hubx_33374⟩ := Prod.mk.inj hux_33374
                  rw [huax_33374, hubx_33374] at hP hD
                  refine lv_tov 94 hvx_33374 ?_
                  refine lv_icmp_ge (tgt := 164) hx hb dX6_takeWord_64 (by decide +kernel) (fun c_33376 => ?_) (fun c_33376 => ?_)
                  · replace hF := hF.trans (if_pos c_33376)
                    have tc_33381 : 94 ≤ (x_33272).toInt := Int32.le_iff_toInt_le.mp c_33376
                    have h_33382 : rg x_33272 94 94 := rg_le2 c_33376 (rg_k (94 : Int32) 94 rfl) h_33371 (by decide +kernel)
                    have uh_33382 := h_33382.1
                    have vh_33382 := h_33382.2
                    subst hQ
                    exact W.vret hx hb hr (fun t1 ht hW => ⟨⟨(σ, I_33273, J, ri, rj, rq), rfl, ⟨I_33273, rfl, hG, (by omega), (hF0.symm.trans hF), hFr⟩, by rw [ht]; exact hP, va_K.moved hW.alike hK, hD⟩, hS.F ht⟩) hS.2.2 dX6_takeWord_164
                  · replace hF := hF.trans (if_neg c_33376)
                    have tc_33383 : (x_33272).toInt < 94 := Int32.lt_iff_toInt_lt.mp (nle c_33376)
                    have h_33384 : rg x_33272 0 93 := rg_lt1 (nle c_33376) h_33371 (rg_k (94 : Int32) 94 rfl) (by decide +kernel)
                    have uh_33384 := h_33384.1
                    have vh_33384 := h_33384.2
                    refine lv_aload_n hx hb dX6_takeWord_67 rfl (lv_at hl 0 rfl) ?_
                    refine pg_f (v := .int (I_33273 194 this)) (C := RX6) (T := TX6) (N := 6) hx hb hts (tw_i inlX6) hown hK hP hL_this hK_this (by decide +kernel) rfl 2 (by decide +kernel) (hts _ (tw_c tw_668)) rfl dX6_takeWord_68 ?_
                    replace hF := hF.trans (ap_n (vI_e (f := 194) hO_this (by decide +kernel)))
                    refine lv_bipush (v := 34) hx hb dX6_takeWord_71 (by decide +kernel) ?_
                    refine lv_icmp_ne (tgt := 164) hx hb dX6_takeWord_73 (by decide +kernel) (fun c_33386 => ?_) (fun c_33386 => ?_)
                    · replace hF := hF.trans (if_neg c_33386)
                      have tc_33390 : (I_33273 194 this).toInt ≠ 34 := fun q => c_33386 (Int32.toInt_inj.mp q)
                      subst hQ
                      exact W.vret hx hb hr (fun t1 ht hW => ⟨⟨(σ, I_33273, J, ri, rj, rq), rfl, ⟨I_33273, rfl, hG, (by omega), (hF0.symm.trans hF), hFr⟩, by rw [ht]; exact hP, va_K.moved hW.alike hK, hD⟩, hS.F ht⟩) hS.2.2 dX6_takeWord_164
                    · replace hF := hF.trans (if_pos c_33386)
                      have tc_33391 : (I_33273 194 this).toInt = 34 := congrArg Int32.toInt c_33386
                      have h_33392 : rg (I_33273 194 this) 34 34 := rg_and (rg_full _) (rg_of_eq c_33386 (rg_k (34 : Int32) 34 rfl)) (by decide +kernel)
                      have uh_33392 := h_33392.1
                      have vh_33392 := h_33392.2
                      refine va_ldcS hx hb hown hW0.2.2.2.2.2.2.2 dX6_takeWord_76 ?_
                      refine lv_iload hx hb dX6_takeWord_78 (lv_at hl 4 rfl) ?_
                      refine pk_i (va_runV (As := [.int x_33272]) (rest := []) ⟨hx, hb, hml, hown, hts⟩ (s_J0_charAt l D t σ I_33273 J ri rj rq H.size aK aV vF x_33272 (Int32.not_lt.mpr (Int32.le_iff_toInt_le.mpr (by have z8 := (h_33384).1; have z9 : (0 : Int32).toInt = 0 := rfl; omega))) (Int32.lt_iff_toInt_lt.mpr (by have z8 := (h_33384).2; have z9 : (94 : Int32).toInt = 94 := rfl; omega))) (cwV 1 hts (tw_V tw_697 tw_698 tw_699 tw_688 tw_700) rfl rfl rfl cv_yJ0_charAt_5068e_1 ⟨Nat.le_of_ble_eq_true rfl, Nat.le_of_ble_eq_true rfl⟩) ⟨pq_blindS, pq_recvS hW0 hS, pq_preS hK hN hP hD hS hA hW0⟩ rfl rfl hl.1 rfl (lv_room (Nat.le_of_ble_eq_true rfl)) dX6_takeWord_80 ⟨Nat.le_of_ble_eq_true rfl, Nat.le_of_ble_eq_true rfl⟩) hD hS hA (fun x_33393 σ1 μ1 H locs hw_33394 hP hD hS => ?_)
                      obtain ⟨hux_33393, hcx_33393, hvx_33393⟩ := hw_33394
                      obtain ⟨huax_33393, hubx_33393⟩ := Prod.mk.inj hux_33393
                      rw [huax_33393, hubx_33393] at hP hD
                      replace hF := hF.trans (ap_n hcx_33393)
                      refine lv_bipush (v := 32) hx hb dX6_takeWord_83 (by decide +kernel) ?_
                      refine lv_icmp_eq (tgt := 128) hx hb dX6_takeWord_85 (by decide +kernel) (fun c_33395 => ?_) (fun c_33395 => ?_)
                      · replace hF := hF.trans (if_pos c_33395)
                        have tc_33399 : (x_33393).toInt = 32 := congrArg Int32.toInt c_33395
                        have h_33400 : rg x_33393 32 32 := rg_and (rg_full _) (rg_of_eq c_33395 (rg_k (32 : Int32) 32 rfl)) (by decide +kernel)
                        have uh_33400 := h_33400.1
                        have vh_33400 := h_33400.2
                        refine lv_iload_n hx hb dX6_takeWord_128 rfl (lv_at hl 3 rfl) ?_
                        refine lv_if_eq (tgt := 148) hx hb dX6_takeWord_129 (by decide +kernel) (fun c_33401 => ?_) (fun c_33401 => ?_)
                        · replace hF := hF.trans (if_pos c_33401)
                          have tc_33406 : (x_33271).toInt = 0 := congrArg Int32.toInt c_33401
                          have h_33407 : rg x_33271 0 0 := rg_and h_33370 (rg_of_eq c_33401 (rg_k (0 : Int32) 0 rfl)) (by decide +kernel)
                          have uh_33407 := h_33407.1
                          have vh_33407 := h_33407.2
                          obtain ⟨x_33408, ex_33408⟩ : ∃ y : Int32, y = x_33269 + Int32.ofInt 1 := ⟨_, rfl⟩
                          replace hF := hF.trans (ap_n ex_33408)
                          refine lv_iinc (v := x_33408) (lv' := [(1, .int x_33408), (0, .ref this), (2, .int x_33270), (3, .int x_33271), (4, .int x_33272)]) hx hb dX6_takeWord_148 hl (k := 1) rfl ex_33408.symm (by decide +kernel) rfl (fun ls hl => ?_)
                          refine lv_aload_n hx hb dX6_takeWord_151 rfl (lv_at hl 1 rfl) ?_
                          refine pg_f (v := .int (I_33273 195 this)) (C := RX6) (T := TX6) (N := 6) hx hb hts (tw_i inlX6) hown hK hP hL_this hK_this (by decide +kernel) rfl 3 (by decide +kernel) (hts _ (tw_c tw_667)) rfl dX6_takeWord_152 ?_
                          have h_33409 : rg (I_33273 195 this) 0 300 := GX.rI hG 195 rfl
                          have uh_33409 := h_33409.1
                          have vh_33409 := h_33409.2
                          replace hF := hF.trans (ap_n (vI_e (f := 195) hO_this (by decide +kernel)))
                          refine lv_istore_n (lv' := [(2, .int (I_33273 195 this)), (1, .int x_33408), (0, .ref this), (3, .int x_33271), (4, .int x_33272)]) hx hb dX6_takeWord_155 rfl hl (by decide +kernel) rfl (fun ls hl => ?_)
                          refine lv_iconst (v := 1) hx hb dX6_takeWord_156 (by decide +kernel) ?_
                          refine lv_istore_n (lv' := [(3, .int 1), (2, .int (I_33273 195 this)), (1, .int x_33408), (0, .ref this), (4, .int x_33272)]) hx hb dX6_takeWord_157 rfl hl (by decide +kernel) rfl (fun ls hl => ?_)
                          obtain ⟨x_33411, ex_33411⟩ : ∃ y : Int32, y = x_33272 + Int32.ofInt 1 := ⟨_, rfl⟩
                          replace hF := hF.trans (ap_n ex_33411)
                          have h_33412 : rg x_33411 1 94 := rg_of_eq ex_33411 (rg_add h_33384 (rg_k (Int32.ofInt 1) 1 rfl) (by decide +kernel))
                          have uh_33412 := h_33412.1
                          have vh_33412 := h_33412.2
                          have tx_33411 : (x_33411).toInt = (x_33272).toInt + 1 := by rw [ex_33411]; exact i_add_rg (a2 := (x_33272).toInt) (b2 := 1) rfl rfl h_33384 (rg_k (Int32.ofInt 1) 1 rfl) (by decide +kernel)
                          refine lv_iinc (v := x_33411) (lv' := [(4, .int x_33411), (3, .int 1), (2, .int (I_33273 195 this)), (1, .int x_33408), (0, .ref this)]) hx hb dX6_takeWord_158 hl (k := 4) rfl ex_33411.symm (by decide +kernel) rfl (fun ls hl => ?_)
                          refine lv_goto (tgt := 57) hx hb dX6_takeWord_161 (by decide +kernel) ?_
                          exact ih_33363 x_33408 (I_33273 195 this) (1 : Int32) x_33411 I_33273 _ _ _ (rg_w h_33409 (by decide +kernel)) (rg_w (rg_k (1 : Int32) 1 rfl) (by decide +kernel)) (rg_w h_33412 (by decide +kernel)) (by have k0 : (1 : Int32).toInt = 1 := rfl; omega) (by have k0 : (1 : Int32).toInt = 1 := rfl; omega) (ms_up 1 hm_33360 ex_33411 rfl (by decide +kernel) h_33384 (by decide +kernel) (by decide +kernel)) hF hFr hG hP hD hS (lv_sub hl [4, 3, 2, 1, 0] rfl)
                        · replace hF := hF.trans (if_neg c_33401)
                          have tc_33413 : (x_33271).toInt ≠ 0 := fun q => c_33401 (Int32.toInt_inj.mp q)
                          have h_33414 : rg x_33271 1 1 := rg_ne c_33401 h_33370 0 rfl (by decide +kernel)
                          have uh_33414 := h_33414.1
                          have vh_33414 := h_33414.2
                          refine lv_iload_n hx hb dX6_takeWord_132 rfl (lv_at hl 2 rfl) ?_
                          refine lv_aload_n hx hb dX6_takeWord_133 rfl (lv_at hl 0 rfl) ?_
                          refine pg_f (v := .int (I_33273 197 this)) (C := RX6) (T := TX6) (N := 6) hx hb hts (tw_i inlX6) hown hK hP hL_this hK_this (by decide +kernel) rfl 5 (by decide +kernel) (hts _ (tw_c tw_662)) rfl dX6_takeWord_134 ?_
                          have h_33415 : rg (I_33273 197 this) 0 300 := GX.rI hG 197 rfl
                          have uh_33415 := h_33415.1
                          have vh_33415 := h_33415.2
                          replace hF := hF.trans (ap_n (vI_e (f := 197) hO_this (by decide +kernel)))
                          refine lv_icmp_ne (tgt := 148) hx hb dX6_takeWord_137 (by decide +kernel) (fun c_33417 => ?_) (fun c_33417 => ?_)
                          · replace hF := hF.trans (if_neg c_33417)
                            have tc_33421 : (x_33270).toInt ≠ (I_33273 197 this).toInt := fun q => c_33417 (Int32.toInt_inj.mp q)
                            obtain ⟨x_33422, ex_33422⟩ : ∃ y : Int32, y = x_33269 + Int32.ofInt 1 := ⟨_, rfl⟩
                            replace hF := hF.trans (ap_n ex_33422)
                            refine lv_iinc (v := x_33422) (lv' := [(1, .int x_33422), (0, .ref this), (2, .int x_33270), (3, .int x_33271), (4, .int x_33272)]) hx hb dX6_takeWord_148 hl (k := 1) rfl ex_33422.symm (by decide +kernel) rfl (fun ls hl => ?_)
                            refine lv_aload_n hx hb dX6_takeWord_151 rfl (lv_at hl 1 rfl) ?_
                            refine pg_f (v := .int (I_33273 195 this)) (C := RX6) (T := TX6) (N := 6) hx hb hts (tw_i inlX6) hown hK hP hL_this hK_this (by decide +kernel) rfl 3 (by decide +kernel) (hts _ (tw_c tw_667)) rfl dX6_takeWord_152 ?_
                            have h_33423 : rg (I_33273 195 this) 0 300 := GX.rI hG 195 rfl
                            have uh_33423 := h_33423.1
                            have vh_33423 := h_33423.2
                            replace hF := hF.trans (ap_n (vI_e (f := 195) hO_this (by decide +kernel)))
                            refine lv_istore_n (lv' := [(2, .int (I_33273 195 this)), (1, .int x_33422), (0, .ref this), (3, .int x_33271), (4, .int x_33272)]) hx hb dX6_takeWord_155 rfl hl (by decide +kernel) rfl (fun ls hl => ?_)
                            refine lv_iconst (v := 1) hx hb dX6_takeWord_156 (by decide +kernel) ?_
                            refine lv_istore_n (lv' := [(3, .int 1), (2, .int (I_33273 195 this)), (1, .int x_33422), (0, .ref this), (4, .int x_33272)]) hx hb dX6_takeWord_157 rfl hl (by decide +kernel) rfl (fun ls hl => ?_)
                            obtain ⟨x_33425, ex_33425⟩ : ∃ y : Int32, y = x_33272 + Int32.ofInt 1 := ⟨_, rfl⟩
                            replace hF := hF.trans (ap_n ex_33425)
                            have h_33426 : rg x_33425 1 94 := rg_of_eq ex_33425 (rg_add h_33384 (rg_k (Int32.ofInt 1) 1 rfl) (by decide +kernel))
                            have uh_33426 := h_33426.1
                            have vh_33426 := h_33426.2
                            have tx_33425 : (x_33425).toInt = (x_33272).toInt + 1 := by rw [ex_33425]; exact i_add_rg (a2 := (x_33272).toInt) (b2 := 1) rfl rfl h_33384 (rg_k (Int32.ofInt 1) 1 rfl) (by decide +kernel)
                            refine lv_iinc (v := x_33425) (lv' := [(4, .int x_33425), (3, .int 1), (2, .int (I_33273 195 this)), (1, .int x_33422), (0, .ref this)]) hx hb dX6_takeWord_158 hl (k := 4) rfl ex_33425.symm (by decide +kernel) rfl (fun ls hl => ?_)
                            refine lv_goto (tgt := 57) hx hb dX6_takeWord_161 (by decide +kernel) ?_
                            exact ih_33363 x_33422 (I_33273 195 this) (1 : Int32) x_33425 I_33273 _ _ _ (rg_w h_33423 (by decide +kernel)) (rg_w (rg_k (1 : Int32) 1 rfl) (by decide +kernel)) (rg_w h_33426 (by decide +kernel)) (by have k0 : (1 : Int32).toInt = 1 := rfl; omega) (by have k0 : (1 : Int32).toInt = 1 := rfl; omega) (ms_up 1 hm_33360 ex_33425 rfl (by decide +kernel) h_33384 (by decide +kernel) (by decide +kernel)) hF hFr hG hP hD hS (lv_sub hl [4, 3, 2, 1, 0] rfl)
                          · replace hF := hF.trans (if_pos c_33417)
                            have tc_33427 : (x_33270).toInt = (I_33273 197 this).toInt := congrArg Int32.toInt c_33417
                            have h_33428 : rg x_33270 0 300 := rg_and h_33369 (rg_of_eq c_33417 h_33415) (by decide +kernel)
                            have uh_33428 := h_33428.1
                            have vh_33428 := h_33428.2
                            refine lv_aload_n hx hb dX6_takeWord_140 rfl (lv_at hl 0 rfl) ?_
                            refine lv_iload_n hx hb dX6_takeWord_141 rfl (lv_at hl 1 rfl) ?_
                            refine pp_i (v := x_33269) (ty := .int) (C := RX6) (T := TX6) (N := 6) hx hb hts (tw_i inlX6) tyX6 tyX6_ok nmX6 hown hK hP hD hS hL_this hK_this (by decide +kernel) rfl 2 194 (by decide +kernel) (hts _ (tw_c tw_668)) rfl (tyX6_ok 2 (by decide +kernel)) rfl rfl (Nat.le_of_ble_eq_true rfl) (ps_194 _ _ _ _ _) dX6_takeWord_142 (fun I_33429 H locs eI_33429 hP hD hS => ?_)
                            replace hFr := fr_I (f := 194) hFr hO_this (by decide +kernel) eI_33429
                            replace hF := hF.trans (ap_n (vI_st (f := 194) hO_this (by decide +kernel) eI_33429))
                            have hG := GX.wI hG 194 rfl eI_33429 (rg_w (rg_full _) (by decide +kernel)) (by decide +kernel)
                            have tt_33430 : (I_33429 197 this).toInt = (I_33273 197 this).toInt := by rw [eI_33429, pq_uf _ _ _ (by decide +kernel)]
                            have tt_33431 : (I_33429 193 this).toInt = (I_33273 193 this).toInt := by rw [eI_33429, pq_uf _ _ _ (by decide +kernel)]
                            have tt_33432 : (I_33429 194 this).toInt = (x_33269).toInt := by rw [eI_33429, pq_us]
                            refine lv_goto (tgt := 158) hx hb dX6_takeWord_145 (by decide +kernel) ?_
                            obtain ⟨x_33433, ex_33433⟩ : ∃ y : Int32, y = x_33272 + Int32.ofInt 1 := ⟨_, rfl⟩
                            replace hF := hF.trans (ap_n ex_33433)
                            have h_33434 : rg x_33433 1 94 := rg_of_eq ex_33433 (rg_add h_33384 (rg_k (Int32.ofInt 1) 1 rfl) (by decide +kernel))
                            have uh_33434 := h_33434.1
                            have vh_33434 := h_33434.2
                            have tx_33433 : (x_33433).toInt = (x_33272).toInt + 1 := by rw [ex_33433]; exact i_add_rg (a2 := (x_33272).toInt) (b2 := 1) rfl rfl h_33384 (rg_k (Int32.ofInt 1) 1 rfl) (by decide +kernel)
                            refine lv_iinc (v := x_33433) (lv' := [(4, .int x_33433), (0, .ref this), (1, .int x_33269), (2, .int x_33270), (3, .int x_33271)]) hx hb dX6_takeWord_158 hl (k := 4) rfl ex_33433.symm (by decide +kernel) rfl (fun ls hl => ?_)
                            refine lv_goto (tgt := 57) hx hb dX6_takeWord_161 (by decide +kernel) ?_
                            exact ih_33363 x_33269 x_33270 x_33271 x_33433 I_33429 _ _ _ (rg_w h_33428 (by decide +kernel)) (rg_w h_33414 (by decide +kernel)) (rg_w h_33434 (by decide +kernel)) (by omega) (by omega) (ms_up 1 hm_33360 ex_33433 rfl (by decide +kernel) h_33384 (by decide +kernel) (by decide +kernel)) hF hFr hG hP hD hS (lv_sub hl [1, 2, 3, 4, 0] rfl)
                      · replace hF := hF.trans (if_neg c_33395)
                        have tc_33435 : (x_33393).toInt ≠ 32 := fun q => c_33395 (Int32.toInt_inj.mp q)
                        refine lv_iload_n hx hb dX6_takeWord_88 rfl (lv_at hl 3 rfl) ?_
                        refine lv_if_eq (tgt := 120) hx hb dX6_takeWord_89 (by decide +kernel) (fun c_33436 => ?_) (fun c_33436 => ?_)
                        · replace hF := hF.trans (if_pos c_33436)
                          have tc_33441 : (x_33271).toInt = 0 := congrArg Int32.toInt c_33436
                          have h_33442 : rg x_33271 0 0 := rg_and h_33370 (rg_of_eq c_33436 (rg_k (0 : Int32) 0 rfl)) (by decide +kernel)
                          have uh_33442 := h_33442.1
                          have vh_33442 := h_33442.2
                          refine lv_iconst (v := 0) hx hb dX6_takeWord_120 (by decide +kernel) ?_
                          refine lv_istore_n (lv' := [(3, .int 0), (0, .ref this), (1, .int x_33269), (2, .int x_33270), (4, .int x_33272)]) hx hb dX6_takeWord_121 rfl hl (by decide +kernel) rfl (fun ls hl => ?_)
                          have h_33443 : rg x_33270 0 393 := ⟨by omega, by omega⟩
                          have uh_33443 := h_33443.1
                          have vh_33443 := h_33443.2
                          obtain ⟨x_33444, ex_33444⟩ : ∃ y : Int32, y = x_33270 + Int32.ofInt 1 := ⟨_, rfl⟩
                          replace hF := hF.trans (ap_n ex_33444)
                          have h_33445 : rg x_33444 1 394 := rg_of_eq ex_33444 (rg_add h_33443 (rg_k (Int32.ofInt 1) 1 rfl) (by decide +kernel))
                          have uh_33445 := h_33445.1
                          have vh_33445 := h_33445.2
                          have tx_33444 : (x_33444).toInt = (x_33270).toInt + 1 := by rw [ex_33444]; exact i_add_rg (a2 := (x_33270).toInt) (b2 := 1) rfl rfl h_33443 (rg_k (Int32.ofInt 1) 1 rfl) (by decide +kernel)
                          refine lv_iinc (v := x_33444) (lv' := [(2, .int x_33444), (3, .int 0), (0, .ref this), (1, .int x_33269), (4, .int x_33272)]) hx hb dX6_takeWord_122 hl (k := 3) rfl ex_33444.symm (by decide +kernel) rfl (fun ls hl => ?_)
                          refine lv_goto (tgt := 158) hx hb dX6_takeWord_125 (by decide +kernel) ?_
                          obtain ⟨x_33446, ex_33446⟩ : ∃ y : Int32, y = x_33272 + Int32.ofInt 1 := ⟨_, rfl⟩
                          replace hF := hF.trans (ap_n ex_33446)
                          have h_33447 : rg x_33446 1 94 := rg_of_eq ex_33446 (rg_add h_33384 (rg_k (Int32.ofInt 1) 1 rfl) (by decide +kernel))
                          have uh_33447 := h_33447.1
                          have vh_33447 := h_33447.2
                          have tx_33446 : (x_33446).toInt = (x_33272).toInt + 1 := by rw [ex_33446]; exact i_add_rg (a2 := (x_33272).toInt) (b2 := 1) rfl rfl h_33384 (rg_k (Int32.ofInt 1) 1 rfl) (by decide +kernel)
                          refine lv_iinc (v := x_33446) (lv' := [(4, .int x_33446), (2, .int x_33444), (3, .int 0), (0, .ref this), (1, .int x_33269)]) hx hb dX6_takeWord_158 hl (k := 4) rfl ex_33446.symm (by decide +kernel) rfl (fun ls hl => ?_)
                          refine lv_goto (tgt := 57) hx hb dX6_takeWord_161 (by decide +kernel) ?_
                          exact ih_33363 x_33269 x_33444 (0 : Int32) x_33446 I_33273 _ _ _ (rg_w h_33445 (by decide +kernel)) (rg_w (rg_k (0 : Int32) 0 rfl) (by decide +kernel)) (rg_w h_33447 (by decide +kernel)) (by have k0 : (0 : Int32).toInt = 0 := rfl; omega) (by have k0 : (0 : Int32).toInt = 0 := rfl; omega) (ms_up 1 hm_33360 ex_33446 rfl (by decide +kernel) h_33384 (by decide +kernel) (by decide +kernel)) hF hFr hG hP hD hS (lv_sub hl [3, 4, 1, 2, 0] rfl)
                        · replace hF := hF.trans (if_neg c_33436)
                          have tc_33448 : (x_33271).toInt ≠ 0 := fun q => c_33436 (Int32.toInt_inj.mp q)
                          have h_33449 : rg x_33271 1 1 := rg_ne c_33436 h_33370 0 rfl (by decide +kernel)
                          have uh_33449 := h_33449.1
                          have vh_33449 := h_33449.2
                          refine lv_iload_n hx hb dX6_takeWord_92 rfl (lv_at hl 2 rfl) ?_
                          refine lv_aload_n hx hb dX6_takeWord_93 rfl (lv_at hl 0 rfl) ?_
                          refine pg_f (v := .int (I_33273 197 this)) (C := RX6) (T := TX6) (N := 6) hx hb hts (tw_i inlX6) hown hK hP hL_this hK_this (by decide +kernel) rfl 5 (by decide +kernel) (hts _ (tw_c tw_662)) rfl dX6_takeWord_94 ?_
                          have h_33450 : rg (I_33273 197 this) 0 300 := GX.rI hG 197 rfl
                          have uh_33450 := h_33450.1
                          have vh_33450 := h_33450.2
                          replace hF := hF.trans (ap_n (vI_e (f := 197) hO_this (by decide +kernel)))
                          refine lv_icmp_ge (tgt := 120) hx hb dX6_takeWord_97 (by decide +kernel) (fun c_33452 => ?_) (fun c_33452 => ?_)
                          · replace hF := hF.trans (if_pos c_33452)
                            have tc_33457 : (I_33273 197 this).toInt ≤ (x_33270).toInt := Int32.le_iff_toInt_le.mp c_33452
                            refine lv_iconst (v := 0) hx hb dX6_takeWord_120 (by decide +kernel) ?_
                            refine lv_istore_n (lv' := [(3, .int 0), (0, .ref this), (1, .int x_33269), (2, .int x_33270), (4, .int x_33272)]) hx hb dX6_takeWord_121 rfl hl (by decide +kernel) rfl (fun ls hl => ?_)
                            have h_33458 : rg x_33270 0 393 := ⟨by omega, by omega⟩
                            have uh_33458 := h_33458.1
                            have vh_33458 := h_33458.2
                            obtain ⟨x_33459, ex_33459⟩ : ∃ y : Int32, y = x_33270 + Int32.ofInt 1 := ⟨_, rfl⟩
                            replace hF := hF.trans (ap_n ex_33459)
                            have h_33460 : rg x_33459 1 394 := rg_of_eq ex_33459 (rg_add h_33458 (rg_k (Int32.ofInt 1) 1 rfl) (by decide +kernel))
                            have uh_33460 := h_33460.1
                            have vh_33460 := h_33460.2
                            have tx_33459 : (x_33459).toInt = (x_33270).toInt + 1 := by rw [ex_33459]; exact i_add_rg (a2 := (x_33270).toInt) (b2 := 1) rfl rfl h_33458 (rg_k (Int32.ofInt 1) 1 rfl) (by decide +kernel)
                            refine lv_iinc (v := x_33459) (lv' := [(2, .int x_33459), (3, .int 0), (0, .ref this), (1, .int x_33269), (4, .int x_33272)]) hx hb dX6_takeWord_122 hl (k := 3) rfl ex_33459.symm (by decide +kernel) rfl (fun ls hl => ?_)
                            refine lv_goto (tgt := 158) hx hb dX6_takeWord_125 (by decide +kernel) ?_
                            obtain ⟨x_33461, ex_33461⟩ : ∃ y : Int32, y = x_33272 + Int32.ofInt 1 := ⟨_, rfl⟩
                            replace hF := hF.trans (ap_n ex_33461)
                            have h_33462 : rg x_33461 1 94 := rg_of_eq ex_33461 (rg_add h_33384 (rg_k (Int32.ofInt 1) 1 rfl) (by decide +kernel))
                            have uh_33462 := h_33462.1
                            have vh_33462 := h_33462.2
                            have tx_33461 : (x_33461).toInt = (x_33272).toInt + 1 := by rw [ex_33461]; exact i_add_rg (a2 := (x_33272).toInt) (b2 := 1) rfl rfl h_33384 (rg_k (Int32.ofInt 1) 1 rfl) (by decide +kernel)
                            refine lv_iinc (v := x_33461) (lv' := [(4, .int x_33461), (2, .int x_33459), (3, .int 0), (0, .ref this), (1, .int x_33269)]) hx hb dX6_takeWord_158 hl (k := 4) rfl ex_33461.symm (by decide +kernel) rfl (fun ls hl => ?_)
                            refine lv_goto (tgt := 57) hx hb dX6_takeWord_161 (by decide +kernel) ?_
                            exact ih_33363 x_33269 x_33459 (0 : Int32) x_33461 I_33273 _ _ _ (rg_w h_33460 (by decide +kernel)) (rg_w (rg_k (0 : Int32) 0 rfl) (by decide +kernel)) (rg_w h_33462 (by decide +kernel)) (by have k0 : (0 : Int32).toInt = 0 := rfl; omega) (by have k0 : (0 : Int32).toInt = 0 := rfl; omega) (ms_up 1 hm_33360 ex_33461 rfl (by decide +kernel) h_33384 (by decide +kernel) (by decide +kernel)) hF hFr hG hP hD hS (lv_sub hl [3, 4, 1, 2, 0] rfl)
                          · replace hF := hF.trans (if_neg c_33452)
                            have tc_33463 : (x_33270).toInt < (I_33273 197 this).toInt := Int32.lt_iff_toInt_lt.mp (nle c_33452)
                            have h_33464 : rg x_33270 0 299 := rg_lt1 (nle c_33452) h_33369 h_33450 (by decide +kernel)
                            have uh_33464 := h_33464.1
                            have vh_33464 := h_33464.2
                            have h_33465 : rg (I_33273 197 this) 1 300 := rg_lt2 (nle c_33452) h_33369 h_33450 (by decide +kernel)
                            have uh_33465 := h_33465.1
                            have vh_33465 := h_33465.2
                            refine lv_aload_n hx hb dX6_takeWord_100 rfl (lv_at hl 0 rfl) ?_
                            refine pg_f (v := .ref this_tape) (C := RX6) (T := TX6) (N := 6) hx hb hts (tw_i inlX6) hown hK hP hL_this hK_this (by decide +kernel) rfl 0 (by decide +kernel) (hts _ (tw_c tw_165)) (pq_hv rfl hR_this_tape) dX6_takeWord_101 ?_
                            refine lv_iload_n hx hb dX6_takeWord_104 rfl (lv_at hl 2 rfl) ?_
                            refine pl_i hx hb hK hP hL_this_tape hK_this_tape hN_this_tape (rg_in h_33464 (by decide +kernel)) dX6_takeWord_105 ?_
                            refine lv_topi (fun x_33466 ex_33466 => ?_)
                            replace hF := hF.trans (ap_n (vR_r hO_this_tape (by decide +kernel) ex_33466))
                            refine va_ldcS hx hb hown hW0.2.2.2.2.2.2.2 dX6_takeWord_106 ?_
                            refine lv_iload hx hb dX6_takeWord_108 (lv_at hl 4 rfl) ?_
                            refine pk_i (va_runV (As := [.int x_33272]) (rest := [.int x_33466]) ⟨hx, hb, hml, hown, hts⟩ (s_J0_charAt l D t σ I_33273 J ri rj rq H.size aK aV vF x_33272 (Int32.not_lt.mpr (Int32.le_iff_toInt_le.mpr (by have z8 := (h_33384).1; have z9 : (0 : Int32).toInt = 0 := rfl; omega))) (Int32.lt_iff_toInt_lt.mpr (by have z8 := (h_33384).2; have z9 : (94 : Int32).toInt = 94 := rfl; omega))) (cwV 1 hts (tw_V tw_697 tw_698 tw_699 tw_688 tw_700) rfl rfl rfl cv_yJ0_charAt_5068e_1 ⟨Nat.le_of_ble_eq_true rfl, Nat.le_of_ble_eq_true rfl⟩) ⟨pq_blindS, pq_recvS hW0 hS, pq_preS hK hN hP hD hS hA hW0⟩ rfl rfl hl.1 rfl (lv_room (Nat.le_of_ble_eq_true rfl)) dX6_takeWord_110 ⟨Nat.le_of_ble_eq_true rfl, Nat.le_of_ble_eq_true rfl⟩) hD hS hA (fun x_33467 σ1 μ1 H locs hw_33468 hP hD hS => ?_)
                            obtain ⟨hux_33467, hcx_33467, hvx_33467⟩ := hw_33468
                            obtain ⟨huax_33467, hubx_33467⟩ := Prod.mk.inj hux_33467
                            rw [huax_33467, hubx_33467] at hP hD
                            replace hF := hF.trans (ap_n hcx_33467)
                            refine lv_icmp_ne (tgt := 120) hx hb dX6_takeWord_113 (by decide +kernel) (fun c_33469 => ?_) (fun c_33469 => ?_)
                            · replace hF := hF.trans (if_neg c_33469)
                              have tc_33472 : (x_33466).toInt ≠ (x_33467).toInt := fun q => c_33469 (Int32.toInt_inj.mp q)
                              refine lv_iconst (v := 0) hx hb dX6_takeWord_120 (by decide +kernel) ?_
                              refine lv_istore_n (lv' := [(3, .int 0), (0, .ref this), (1, .int x_33269), (2, .int x_33270), (4, .int x_33272)]) hx hb dX6_takeWord_121 rfl hl (by decide +kernel) rfl (fun ls hl => ?_)
                              obtain ⟨x_33473, ex_33473⟩ : ∃ y : Int32, y = x_33270 + Int32.ofInt 1 := ⟨_, rfl⟩
                              replace hF := hF.trans (ap_n ex_33473)
                              have h_33474 : rg x_33473 1 300 := rg_of_eq ex_33473 (rg_add h_33464 (rg_k (Int32.ofInt 1) 1 rfl) (by decide +kernel))
                              have uh_33474 := h_33474.1
                              have vh_33474 := h_33474.2
                              have tx_33473 : (x_33473).toInt = (x_33270).toInt + 1 := by rw [ex_33473]; exact i_add_rg (a2 := (x_33270).toInt) (b2 := 1) rfl rfl h_33464 (rg_k (Int32.ofInt 1) 1 rfl) (by decide +kernel)
                              refine lv_iinc (v := x_33473) (lv' := [(2, .int x_33473), (3, .int 0), (0, .ref this), (1, .int x_33269), (4, .int x_33272)]) hx hb dX6_takeWord_122 hl (k := 3) rfl ex_33473.symm (by decide +kernel) rfl (fun ls hl => ?_)
                              refine lv_goto (tgt := 158) hx hb dX6_takeWord_125 (by decide +kernel) ?_
                              obtain ⟨x_33475, ex_33475⟩ : ∃ y : Int32, y = x_33272 + Int32.ofInt 1 := ⟨_, rfl⟩
                              replace hF := hF.trans (ap_n ex_33475)
                              have h_33476 : rg x_33475 1 94 := rg_of_eq ex_33475 (rg_add h_33384 (rg_k (Int32.ofInt 1) 1 rfl) (by decide +kernel))
                              have uh_33476 := h_33476.1
                              have vh_33476 := h_33476.2
                              have tx_33475 : (x_33475).toInt = (x_33272).toInt + 1 := by rw [ex_33475]; exact i_add_rg (a2 := (x_33272).toInt) (b2 := 1) rfl rfl h_33384 (rg_k (Int32.ofInt 1) 1 rfl) (by decide +kernel)
                              refine lv_iinc (v := x_33475) (lv' := [(4, .int x_33475), (2, .int x_33473), (3, .int 0), (0, .ref this), (1, .int x_33269)]) hx hb dX6_takeWord_158 hl (k := 4) rfl ex_33475.symm (by decide +kernel) rfl (fun ls hl => ?_)
                              refine lv_goto (tgt := 57) hx hb dX6_takeWord_161 (by decide +kernel) ?_
                              exact ih_33363 x_33269 x_33473 (0 : Int32) x_33475 I_33273 _ _ _ (rg_w h_33474 (by decide +kernel)) (rg_w (rg_k (0 : Int32) 0 rfl) (by decide +kernel)) (rg_w h_33476 (by decide +kernel)) (by have k0 : (0 : Int32).toInt = 0 := rfl; omega) (by have k0 : (0 : Int32).toInt = 0 := rfl; omega) (ms_up 1 hm_33360 ex_33475 rfl (by decide +kernel) h_33384 (by decide +kernel) (by decide +kernel)) hF hFr hG hP hD hS (lv_sub hl [3, 4, 1, 2, 0] rfl)
                            · replace hF := hF.trans (if_pos c_33469)
                              have tc_33477 : (x_33466).toInt = (x_33467).toInt := congrArg Int32.toInt c_33469
                              refine lv_iconst (v := 1) hx hb dX6_takeWord_116 (by decide +kernel) ?_
                              refine lv_goto (tgt := 121) hx hb dX6_takeWord_117 (by decide +kernel) ?_
                              refine lv_istore_n (lv' := [(3, .int 1), (0, .ref this), (1, .int x_33269), (2, .int x_33270), (4, .int x_33272)]) hx hb dX6_takeWord_121 rfl hl (by decide +kernel) rfl (fun ls hl => ?_)
                              obtain ⟨x_33478, ex_33478⟩ : ∃ y : Int32, y = x_33270 + Int32.ofInt 1 := ⟨_, rfl⟩
                              replace hF := hF.trans (ap_n ex_33478)
                              have h_33479 : rg x_33478 1 300 := rg_of_eq ex_33478 (rg_add h_33464 (rg_k (Int32.ofInt 1) 1 rfl) (by decide +kernel))
                              have uh_33479 := h_33479.1
                              have vh_33479 := h_33479.2
                              have tx_33478 : (x_33478).toInt = (x_33270).toInt + 1 := by rw [ex_33478]; exact i_add_rg (a2 := (x_33270).toInt) (b2 := 1) rfl rfl h_33464 (rg_k (Int32.ofInt 1) 1 rfl) (by decide +kernel)
                              refine lv_iinc (v := x_33478) (lv' := [(2, .int x_33478), (3, .int 1), (0, .ref this), (1, .int x_33269), (4, .int x_33272)]) hx hb dX6_takeWord_122 hl (k := 3) rfl ex_33478.symm (by decide +kernel) rfl (fun ls hl => ?_)
                              refine lv_goto (tgt := 158) hx hb dX6_takeWord_125 (by decide +kernel) ?_
                              obtain ⟨x_33480, ex_33480⟩ : ∃ y : Int32, y = x_33272 + Int32.ofInt 1 := ⟨_, rfl⟩
                              replace hF := hF.trans (ap_n ex_33480)
                              have h_33481 : rg x_33480 1 94 := rg_of_eq ex_33480 (rg_add h_33384 (rg_k (Int32.ofInt 1) 1 rfl) (by decide +kernel))
                              have uh_33481 := h_33481.1
                              have vh_33481 := h_33481.2
                              have tx_33480 : (x_33480).toInt = (x_33272).toInt + 1 := by rw [ex_33480]; exact i_add_rg (a2 := (x_33272).toInt) (b2 := 1) rfl rfl h_33384 (rg_k (Int32.ofInt 1) 1 rfl) (by decide +kernel)
                              refine lv_iinc (v := x_33480) (lv' := [(4, .int x_33480), (2, .int x_33478), (3, .int 1), (0, .ref this), (1, .int x_33269)]) hx hb dX6_takeWord_158 hl (k := 4) rfl ex_33480.symm (by decide +kernel) rfl (fun ls hl => ?_)
                              refine lv_goto (tgt := 57) hx hb dX6_takeWord_161 (by decide +kernel) ?_
                              exact ih_33363 x_33269 x_33478 (1 : Int32) x_33480 I_33273 _ _ _ (rg_w h_33479 (by decide +kernel)) (rg_w (rg_k (1 : Int32) 1 rfl) (by decide +kernel)) (rg_w h_33481 (by decide +kernel)) (by have k0 : (1 : Int32).toInt = 1 := rfl; omega) (by have k0 : (1 : Int32).toInt = 1 := rfl; omega) (ms_up 1 hm_33360 ex_33480 rfl (by decide +kernel) h_33384 (by decide +kernel) (by decide +kernel)) hF hFr hG hP hD hS (lv_sub hl [3, 4, 1, 2, 0] rfl)
              exact L_33362 _ (0 : Int32) (I_30912 195 this) (1 : Int32) (0 : Int32) I_30912 _ _ _ (rg_w h_30916 (by decide +kernel)) (rg_w (rg_k (1 : Int32) 1 rfl) (by decide +kernel)) (rg_w (rg_k (0 : Int32) 0 rfl) (by decide +kernel)) (by have k0 : (0 : Int32).toInt = 0 := rfl; have k1 : (1 : Int32).toInt = 1 := rfl; omega) (by have k0 : (0 : Int32).toInt = 0 := rfl; have k1 : (1 : Int32).toInt = 1 := rfl; omega) (Nat.lt_succ_self _) hF hFr hG hP hD hS (lv_sub hl [4, 3, 2, 1, 0] rfl)
            refine lv_icmp_ge (tgt := 39) hx hb dX6_takeWord_8 (by decide +kernel) (fun c_33482 => ?_) (fun c_33482 => ?_)
            · replace hF := hF.trans (if_pos c_33482)
              have tc_33487 : (I_25761 193 this).toInt ≤ (I_25761 197 this).toInt := Int32.le_iff_toInt_le.mp c_33482
              have h_33488 : rg (I_25761 197 this) 1 300 := rg_le2 c_33482 h_28341 h_28339 (by decide +kernel)
              have uh_33488 := h_33488.1
              have vh_33488 := h_33488.2
              exact K_30909 _ _ _ (by omega) hF hFr hG hP hD hS (lv_sub hl [0] rfl)
            · replace hF := hF.trans (if_neg c_33482)
              have tc_33489 : (I_25761 197 this).toInt < (I_25761 193 this).toInt := Int32.lt_iff_toInt_lt.mp (nle c_33482)
              have h_33490 : rg (I_25761 197 this) 0 299 := rg_lt1 (nle c_33482) h_28339 h_28341 (by decide +kernel)
              have uh_33490 := h_33490.1
              have vh_33490 := h_33490.2
              refine lv_aload_n hx hb dX6_takeWord_11 rfl (lv_at hl 0 rfl) ?_
              refine pg_f (v := .ref this_tape) (C := RX6) (T := TX6) (N := 6) hx hb hts (tw_i inlX6) hown hK hP hL_this hK_this (by decide +kernel) rfl 0 (by decide +kernel) (hts _ (tw_c tw_165)) (pq_hv rfl hR_this_tape) dX6_takeWord_12 ?_
              refine lv_aload_n hx hb dX6_takeWord_15 rfl (lv_at hl 0 rfl) ?_
              refine pg_f (v := .int (I_25761 197 this)) (C := RX6) (T := TX6) (N := 6) hx hb hts (tw_i inlX6) hown hK hP hL_this hK_this (by decide +kernel) rfl 5 (by decide +kernel) (hts _ (tw_c tw_662)) rfl dX6_takeWord_16 ?_
              refine pl_i hx hb hK hP hL_this_tape hK_this_tape hN_this_tape (rg_in h_33490 (by decide +kernel)) dX6_takeWord_19 ?_
              refine lv_topi (fun x_33491 ex_33491 => ?_)
              replace hF := hF.trans (ap_n (vR_r hO_this_tape (by decide +kernel) ex_33491))
              have tt_33492 : (I_25761 197 this).toInt = (I 197 this).toInt → (x_33491).toInt = (ri this_tape (I 197 this).toNatClampNeg).toInt := fun q => by rw [ex_33491, Int32.toInt_inj.mp q]
              refine pk_i (va_runS (As := [.int x_33491]) (rest := []) ⟨hx, hb, hml, hown, hts⟩ (s_X6_isLetter_x l D t σ I_25761 J ri rj rq H.size tg hSH hG.1 x_33491) (va_cwS 1 hts (tw_S tw_678 tw_679 tw_153 tw_680) rfl rfl rfl cd_yX6_isLetter_1 ⟨Nat.le_of_ble_eq_true rfl, Nat.le_of_ble_eq_true rfl⟩) ⟨pq_blind, pq_pre hK hN hP hD⟩ rfl rfl hl.1 rfl (lv_room (Nat.le_of_ble_eq_true rfl)) dX6_takeWord_20 ⟨Nat.le_of_ble_eq_true rfl, Nat.le_of_ble_eq_true rfl⟩) hD hS hA (fun x_33493 σ1 μ1 H locs hw_33494 hP hD hS => ?_)
              obtain ⟨hu_33495, hfn_33498, hr_33497⟩ := hw_33494
              obtain ⟨hu_33495a, hu_33495b⟩ := Prod.mk.inj hu_33495
              rw [hu_33495a, hu_33495b] at hP hD
              replace hF := hF.trans (ap_n hfn_33498.symm)
              have h_33500 : rg x_33493 0 1 := by rcases hr_33497 with ⟨q, -⟩ | ⟨q, -⟩ <;> rw [q] <;> exact ⟨by decide +kernel, by decide +kernel⟩
              have uh_33500 := h_33500.1
              have vh_33500 := h_33500.2
              refine lv_if_eq (tgt := 39) hx hb dX6_takeWord_23 (by decide +kernel) (fun c_33501 => ?_) (fun c_33501 => ?_)
              · replace hF := hF.trans (if_pos c_33501)
                have f_33509 := (hr_33497.resolve_left (fun q => absurd (q.1.symm.trans c_33501) (by decide +kernel))).2
                have tc_33510 : (x_33493).toInt = 0 := congrArg Int32.toInt c_33501
                have h_33511 : rg x_33493 0 0 := rg_and h_33500 (rg_of_eq c_33501 (rg_k (0 : Int32) 0 rfl)) (by decide +kernel)
                have uh_33511 := h_33511.1
                have vh_33511 := h_33511.2
                exact K_30909 _ _ _ (by omega) hF hFr hG hP hD hS (lv_sub hl [0] rfl)
              · replace hF := hF.trans (if_neg c_33501)
                obtain ⟨f_33512, f_33513⟩ := (hr_33497.resolve_right (fun q => c_33501 q.1)).2
                have uf_33512 := f_33512.1
                have vf_33512 := f_33512.2
                have tc_33514 : (x_33493).toInt ≠ 0 := fun q => c_33501 (Int32.toInt_inj.mp q)
                have h_33515 : rg x_33493 1 1 := rg_ne c_33501 h_33500 0 rfl (by decide +kernel)
                have uh_33515 := h_33515.1
                have vh_33515 := h_33515.2
                refine lv_aload_n hx hb dX6_takeWord_26 rfl (lv_at hl 0 rfl) ?_
                refine lv_dup hx hb dX6_takeWord_27 rfl ?_
                refine pg_f (v := .int (I_25761 197 this)) (C := RX6) (T := TX6) (N := 6) hx hb hts (tw_i inlX6) hown hK hP hL_this hK_this (by decide +kernel) rfl 5 (by decide +kernel) (hts _ (tw_c tw_662)) rfl dX6_takeWord_28 ?_
                refine lv_iconst (v := 1) hx hb dX6_takeWord_31 (by decide +kernel) ?_
                refine lv_iadd hx hb dX6_takeWord_32 ?_
                refine lv_topi (fun x_33516 ex_33516 => ?_)
                replace hF := hF.trans (ap_n ex_33516)
                have h_33517 : rg x_33516 1 300 := rg_of_eq ex_33516 (rg_add h_33490 (rg_k (1 : Int32) 1 rfl) (by decide +kernel))
                have uh_33517 := h_33517.1
                have vh_33517 := h_33517.2
                have tx_33516 : (x_33516).toInt = (I_25761 197 this).toInt + 1 := by rw [ex_33516]; exact i_add_rg (a2 := (I_25761 197 this).toInt) (b2 := 1) rfl rfl h_33490 (rg_k (1 : Int32) 1 rfl) (by decide +kernel)
                refine pp_i (v := x_33516) (ty := .int) (C := RX6) (T := TX6) (N := 6) hx hb hts (tw_i inlX6) tyX6 tyX6_ok nmX6 hown hK hP hD hS hL_this hK_this (by decide +kernel) rfl 5 197 (by decide +kernel) (hts _ (tw_c tw_662)) rfl (tyX6_ok 5 (by decide +kernel)) rfl rfl (Nat.le_of_ble_eq_true rfl) (ps_197 _ _ _ _ _) dX6_takeWord_33 (fun I_33518 H locs eI_33518 hP hD hS => ?_)
                replace hFr := fr_I (f := 197) hFr hO_this (by decide +kernel) eI_33518
                replace hF := hF.trans (ap_n (vI_st (f := 197) hO_this (by decide +kernel) eI_33518))
                have hG := GX.wI hG 197 rfl eI_33518 (rg_w h_33517 (by decide +kernel)) (by decide +kernel)
                have tt_33519 : (I_33518 197 this).toInt = (x_33516).toInt := by rw [eI_33518, pq_us]
                have tt_33520 : (I_33518 193 this).toInt = (I_25761 193 this).toInt := by rw [eI_33518, pq_uf _ _ _ (by decide +kernel)]
                have tt_33521 : (I_33518 194 this).toInt = (I_25761 194 this).toInt := by rw [eI_33518, pq_uf _ _ _ (by decide +kernel)]
                refine lv_goto (tgt := 0) hx hb dX6_takeWord_36 (by decide +kernel) ?_
                exact ih_28336 I_33518 _ _ _ (by omega) (ms_fu_iadd hm_28333 (by rw [eI_33518]; exact pq_us _ _ _ _) ex_33516 rfl (kk := 1) rfl (by decide +kernel) h_33490 (by decide +kernel) (by decide +kernel)) hF hFr hG hP hD hS (lv_sub hl [0] rfl)
        replace hF := hF.trans (ap_n (vI_e (f := 197) hO_this (by decide +kernel)))
        exact L_28335 _ I_18041 _ _ _ (by omega) (Nat.lt_succ_self _) hF hFr hG hP hD hS (lv_sub hl [0] rfl)
  exact go _ _ _ hP hD hS hl

set_option maxRecDepth 100000 in
def g_X6_advance_K52 (I : Nat → Int32) (J : Nat → Int64) (ri : Nat → Nat → Int32) (rj : Nat → Nat → Int64) (rq : Nat → Nat → Option Nat) (y_2 : Int32) : vM := (ap1 (va_up I 195 (y_2)) fun (I_1518 : Nat → Int32) => (ap1 (I_1518 197) fun (y_1523 : Int32) => (ap1 (I_1518 193) fun (y_1525 : Int32) => (if (y_1523) < (y_1525) then (ap1 (ri 192 ((y_1523)).toNatClampNeg) fun (x_1535 : Int32) => (ap1 (g_X6_isDigit_x x_1535) fun (x_1536 : Int32) => (if x_1536 = (0 : Int32) then (ap1 (g_X6_isLetter_x x_1535) fun (x_1555 : Int32) => (if x_1555 = (0 : Int32) then (ap1 (g_X6_signOf x_1535) fun (x_1574 : Int32) => (ap1 (va_up I_1518 194 x_1574) fun (I_1581 : Nat → Int32) => (ap1 (I_1581 197) fun (y_1586 : Int32) => (ap1 ((y_1586) + (1 : Int32)) fun (x_1587 : Int32) => (ap1 (va_up I_1581 197 x_1587) fun (I_1589 : Nat → Int32) => (bnV (g_X6_takeLonger_x I_1589 J ri rj rq) fun (I_1595 : Nat → Int32) (_ : Nat → Int64) (_ : Nat → Nat → Int32) (_ : Nat → Nat → Int64) (_ : Nat → Nat → Option Nat) => (I_1595, J, ri, rj, rq))))))) else (bnV (g_X6_takeWord I_1518 J ri rj rq) fun (I_1611 : Nat → Int32) (_ : Nat → Int64) (_ : Nat → Nat → Int32) (_ : Nat → Nat → Int64) (_ : Nat → Nat → Option Nat) => (I_1611, J, ri, rj, rq)))) else (bnV (g_X6_takeNumber_x I_1518 J ri rj rq) fun (I_1627 : Nat → Int32) (_ : Nat → Int64) (_ : Nat → Nat → Int32) (_ : Nat → Nat → Int64) (_ : Nat → Nat → Option Nat) => (I_1627, J, ri, rj, rq))))) else (ap1 (va_up I_1518 194 (33 : Int32)) fun (I_1637 : Nat → Int32) => (I_1637, J, ri, rj, rq))))))
set_option maxRecDepth 100000 in
theorem g_X6_advance_K52_e {I : Nat → Int32} {J : Nat → Int64} {ri : Nat → Nat → Int32} {rj : Nat → Nat → Int64} {rq : Nat → Nat → Option Nat} {y_2 : Int32} : g_X6_advance_K52 I J ri rj rq y_2  = (ap1 (va_up I 195 (y_2)) fun (I_1518 : Nat → Int32) => (ap1 (I_1518 197) fun (y_1523 : Int32) => (ap1 (I_1518 193) fun (y_1525 : Int32) => (if (y_1523) < (y_1525) then (ap1 (ri 192 ((y_1523)).toNatClampNeg) fun (x_1535 : Int32) => (ap1 (g_X6_isDigit_x x_1535) fun (x_1536 : Int32) => (if x_1536 = (0 : Int32) then (ap1 (g_X6_isLetter_x x_1535) fun (x_1555 : Int32) => (if x_1555 = (0 : Int32) then (ap1 (g_X6_signOf x_1535) fun (x_1574 : Int32) => (ap1 (va_up I_1518 194 x_1574) fun (I_1581 : Nat → Int32) => (ap1 (I_1581 197) fun (y_1586 : Int32) => (ap1 ((y_1586) + (1 : Int32)) fun (x_1587 : Int32) => (ap1 (va_up I_1581 197 x_1587) fun (I_1589 : Nat → Int32) => (bnV (g_X6_takeLonger_x I_1589 J ri rj rq) fun (I_1595 : Nat → Int32) (_ : Nat → Int64) (_ : Nat → Nat → Int32) (_ : Nat → Nat → Int64) (_ : Nat → Nat → Option Nat) => (I_1595, J, ri, rj, rq))))))) else (bnV (g_X6_takeWord I_1518 J ri rj rq) fun (I_1611 : Nat → Int32) (_ : Nat → Int64) (_ : Nat → Nat → Int32) (_ : Nat → Nat → Int64) (_ : Nat → Nat → Option Nat) => (I_1611, J, ri, rj, rq)))) else (bnV (g_X6_takeNumber_x I_1518 J ri rj rq) fun (I_1627 : Nat → Int32) (_ : Nat → Int64) (_ : Nat → Nat → Int32) (_ : Nat → Nat → Int64) (_ : Nat → Nat → Option Nat) => (I_1627, J, ri, rj, rq))))) else (ap1 (va_up I_1518 194 (33 : Int32)) fun (I_1637 : Nat → Int32) => (I_1637, J, ri, rj, rq)))))) := rfl
set_option maxRecDepth 100000 in
def g_X6_advance_K52_2 (J : Nat → Int64) (ri : Nat → Nat → Int32) (rj : Nat → Nat → Int64) (rq : Nat → Nat → Option Nat) (I_2077 : Nat → Int32) (y_2222 : Int32) : vM := (ap1 (va_up I_2077 195 (y_2222)) fun (I_2358 : Nat → Int32) => (ap1 (I_2358 197) fun (y_2363 : Int32) => (ap1 (I_2358 193) fun (y_2365 : Int32) => (if (y_2363) < (y_2365) then (ap1 (ri 192 ((y_2363)).toNatClampNeg) fun (x_2373 : Int32) => (ap1 (g_X6_isDigit_x x_2373) fun (x_2374 : Int32) => (if x_2374 = (0 : Int32) then (ap1 (g_X6_isLetter_x x_2373) fun (x_2393 : Int32) => (if x_2393 = (0 : Int32) then (ap1 (g_X6_signOf x_2373) fun (x_2412 : Int32) => (ap1 (va_up I_2358 194 x_2412) fun (I_2419 : Nat → Int32) => (ap1 (I_2419 197) fun (y_2424 : Int32) => (ap1 ((y_2424) + (1 : Int32)) fun (x_2425 : Int32) => (ap1 (va_up I_2419 197 x_2425) fun (I_2427 : Nat → Int32) => (bnV (g_X6_takeLonger_x I_2427 J ri rj rq) fun (I_2433 : Nat → Int32) (_ : Nat → Int64) (_ : Nat → Nat → Int32) (_ : Nat → Nat → Int64) (_ : Nat → Nat → Option Nat) => (I_2433, J, ri, rj, rq))))))) else (bnV (g_X6_takeWord I_2358 J ri rj rq) fun (I_2450 : Nat → Int32) (_ : Nat → Int64) (_ : Nat → Nat → Int32) (_ : Nat → Nat → Int64) (_ : Nat → Nat → Option Nat) => (I_2450, J, ri, rj, rq)))) else (bnV (g_X6_takeNumber_x I_2358 J ri rj rq) fun (I_2467 : Nat → Int32) (_ : Nat → Int64) (_ : Nat → Nat → Int32) (_ : Nat → Nat → Int64) (_ : Nat → Nat → Option Nat) => (I_2467, J, ri, rj, rq))))) else (ap1 (va_up I_2358 194 (33 : Int32)) fun (I_2478 : Nat → Int32) => (I_2478, J, ri, rj, rq))))))
set_option maxRecDepth 100000 in
theorem g_X6_advance_K52_2_e {J : Nat → Int64} {ri : Nat → Nat → Int32} {rj : Nat → Nat → Int64} {rq : Nat → Nat → Option Nat} {I_2077 : Nat → Int32} {y_2222 : Int32} : g_X6_advance_K52_2 J ri rj rq I_2077 y_2222  = (ap1 (va_up I_2077 195 (y_2222)) fun (I_2358 : Nat → Int32) => (ap1 (I_2358 197) fun (y_2363 : Int32) => (ap1 (I_2358 193) fun (y_2365 : Int32) => (if (y_2363) < (y_2365) then (ap1 (ri 192 ((y_2363)).toNatClampNeg) fun (x_2373 : Int32) => (ap1 (g_X6_isDigit_x x_2373) fun (x_2374 : Int32) => (if x_2374 = (0 : Int32) then (ap1 (g_X6_isLetter_x x_2373) fun (x_2393 : Int32) => (if x_2393 = (0 : Int32) then (ap1 (g_X6_signOf x_2373) fun (x_2412 : Int32) => (ap1 (va_up I_2358 194 x_2412) fun (I_2419 : Nat → Int32) => (ap1 (I_2419 197) fun (y_2424 : Int32) => (ap1 ((y_2424) + (1 : Int32)) fun (x_2425 : Int32) => (ap1 (va_up I_2419 197 x_2425) fun (I_2427 : Nat → Int32) => (bnV (g_X6_takeLonger_x I_2427 J ri rj rq) fun (I_2433 : Nat → Int32) (_ : Nat → Int64) (_ : Nat → Nat → Int32) (_ : Nat → Nat → Int64) (_ : Nat → Nat → Option Nat) => (I_2433, J, ri, rj, rq))))))) else (bnV (g_X6_takeWord I_2358 J ri rj rq) fun (I_2450 : Nat → Int32) (_ : Nat → Int64) (_ : Nat → Nat → Int32) (_ : Nat → Nat → Int64) (_ : Nat → Nat → Option Nat) => (I_2450, J, ri, rj, rq)))) else (bnV (g_X6_takeNumber_x I_2358 J ri rj rq) fun (I_2467 : Nat → Int32) (_ : Nat → Int64) (_ : Nat → Nat → Int32) (_ : Nat → Nat → Int64) (_ : Nat → Nat → Option Nat) => (I_2467, J, ri, rj, rq))))) else (ap1 (va_up I_2358 194 (33 : Int32)) fun (I_2478 : Nat → Int32) => (I_2478, J, ri, rj, rq)))))) := rfl
set_option maxRecDepth 100000 in
def g_X6_advance_L0 (J : Nat → Int64) (ri : Nat → Nat → Int32) (rj : Nat → Nat → Int64) (rq : Nat → Nat → Option Nat) : Nat → (Nat → Int32) → vM
  | 0, I_2077 => (I_2077, J, ri, rj, rq)
  | n_2216 + 1, I_2077 => (ap1 (I_2077 197) fun (y_2222 : Int32) => (ap1 (I_2077 193) fun (y_2224 : Int32) => (if (y_2224) ≤ (y_2222) then (g_X6_advance_K52_2 J ri rj rq I_2077 y_2222 ) else (ap1 (ri 192 ((y_2222)).toNatClampNeg) fun (x_2491 : Int32) => (if x_2491 = (32 : Int32) then (ap1 ((y_2222) + (1 : Int32)) fun (x_2498 : Int32) => (ap1 (va_up I_2077 197 x_2498) fun (I_2500 : Nat → Int32) => ((g_X6_advance_L0 J ri rj rq n_2216) I_2500))) else (if x_2491 = (10 : Int32) then (ap1 ((y_2222) + (1 : Int32)) fun (x_2512 : Int32) => (ap1 (va_up I_2077 197 x_2512) fun (I_2514 : Nat → Int32) => ((g_X6_advance_L0 J ri rj rq n_2216) I_2514))) else (g_X6_advance_K52_2 J ri rj rq I_2077 y_2222 )))))))
set_option maxRecDepth 100000 in
theorem g_X6_advance_L0_e {J : Nat → Int64} {ri : Nat → Nat → Int32} {rj : Nat → Nat → Int64} {rq : Nat → Nat → Option Nat} {n_2216 : Nat} {I_2077 : Nat → Int32} : g_X6_advance_L0 J ri rj rq (n_2216 + 1) I_2077 = (ap1 (I_2077 197) fun (y_2222 : Int32) => (ap1 (I_2077 193) fun (y_2224 : Int32) => (if (y_2224) ≤ (y_2222) then (g_X6_advance_K52_2 J ri rj rq I_2077 y_2222 ) else (ap1 (ri 192 ((y_2222)).toNatClampNeg) fun (x_2491 : Int32) => (if x_2491 = (32 : Int32) then (ap1 ((y_2222) + (1 : Int32)) fun (x_2498 : Int32) => (ap1 (va_up I_2077 197 x_2498) fun (I_2500 : Nat → Int32) => ((g_X6_advance_L0 J ri rj rq n_2216) I_2500))) else (if x_2491 = (10 : Int32) then (ap1 ((y_2222) + (1 : Int32)) fun (x_2512 : Int32) => (ap1 (va_up I_2077 197 x_2512) fun (I_2514 : Nat → Int32) => ((g_X6_advance_L0 J ri rj rq n_2216) I_2514))) else (g_X6_advance_K52_2 J ri rj rq I_2077 y_2222 ))))))) := rfl
set_option maxRecDepth 100000 in
def g_X6_advance_K52_3 (J : Nat → Int64) (ri : Nat → Nat → Int32) (rj : Nat → Nat → Int64) (rq : Nat → Nat → Option Nat) (I_2946 : Nat → Int32) (y_3091 : Int32) : vM := (ap1 (va_up I_2946 195 (y_3091)) fun (I_3227 : Nat → Int32) => (ap1 (I_3227 197) fun (y_3232 : Int32) => (ap1 (I_3227 193) fun (y_3234 : Int32) => (if (y_3232) < (y_3234) then (ap1 (ri 192 ((y_3232)).toNatClampNeg) fun (x_3242 : Int32) => (ap1 (g_X6_isDigit_x x_3242) fun (x_3243 : Int32) => (if x_3243 = (0 : Int32) then (ap1 (g_X6_isLetter_x x_3242) fun (x_3262 : Int32) => (if x_3262 = (0 : Int32) then (ap1 (g_X6_signOf x_3242) fun (x_3281 : Int32) => (ap1 (va_up I_3227 194 x_3281) fun (I_3288 : Nat → Int32) => (ap1 (I_3288 197) fun (y_3293 : Int32) => (ap1 ((y_3293) + (1 : Int32)) fun (x_3294 : Int32) => (ap1 (va_up I_3288 197 x_3294) fun (I_3296 : Nat → Int32) => (bnV (g_X6_takeLonger_x I_3296 J ri rj rq) fun (I_3302 : Nat → Int32) (_ : Nat → Int64) (_ : Nat → Nat → Int32) (_ : Nat → Nat → Int64) (_ : Nat → Nat → Option Nat) => (I_3302, J, ri, rj, rq))))))) else (bnV (g_X6_takeWord I_3227 J ri rj rq) fun (I_3319 : Nat → Int32) (_ : Nat → Int64) (_ : Nat → Nat → Int32) (_ : Nat → Nat → Int64) (_ : Nat → Nat → Option Nat) => (I_3319, J, ri, rj, rq)))) else (bnV (g_X6_takeNumber_x I_3227 J ri rj rq) fun (I_3336 : Nat → Int32) (_ : Nat → Int64) (_ : Nat → Nat → Int32) (_ : Nat → Nat → Int64) (_ : Nat → Nat → Option Nat) => (I_3336, J, ri, rj, rq))))) else (ap1 (va_up I_3227 194 (33 : Int32)) fun (I_3347 : Nat → Int32) => (I_3347, J, ri, rj, rq))))))
set_option maxRecDepth 100000 in
theorem g_X6_advance_K52_3_e {J : Nat → Int64} {ri : Nat → Nat → Int32} {rj : Nat → Nat → Int64} {rq : Nat → Nat → Option Nat} {I_2946 : Nat → Int32} {y_3091 : Int32} : g_X6_advance_K52_3 J ri rj rq I_2946 y_3091  = (ap1 (va_up I_2946 195 (y_3091)) fun (I_3227 : Nat → Int32) => (ap1 (I_3227 197) fun (y_3232 : Int32) => (ap1 (I_3227 193) fun (y_3234 : Int32) => (if (y_3232) < (y_3234) then (ap1 (ri 192 ((y_3232)).toNatClampNeg) fun (x_3242 : Int32) => (ap1 (g_X6_isDigit_x x_3242) fun (x_3243 : Int32) => (if x_3243 = (0 : Int32) then (ap1 (g_X6_isLetter_x x_3242) fun (x_3262 : Int32) => (if x_3262 = (0 : Int32) then (ap1 (g_X6_signOf x_3242) fun (x_3281 : Int32) => (ap1 (va_up I_3227 194 x_3281) fun (I_3288 : Nat → Int32) => (ap1 (I_3288 197) fun (y_3293 : Int32) => (ap1 ((y_3293) + (1 : Int32)) fun (x_3294 : Int32) => (ap1 (va_up I_3288 197 x_3294) fun (I_3296 : Nat → Int32) => (bnV (g_X6_takeLonger_x I_3296 J ri rj rq) fun (I_3302 : Nat → Int32) (_ : Nat → Int64) (_ : Nat → Nat → Int32) (_ : Nat → Nat → Int64) (_ : Nat → Nat → Option Nat) => (I_3302, J, ri, rj, rq))))))) else (bnV (g_X6_takeWord I_3227 J ri rj rq) fun (I_3319 : Nat → Int32) (_ : Nat → Int64) (_ : Nat → Nat → Int32) (_ : Nat → Nat → Int64) (_ : Nat → Nat → Option Nat) => (I_3319, J, ri, rj, rq)))) else (bnV (g_X6_takeNumber_x I_3227 J ri rj rq) fun (I_3336 : Nat → Int32) (_ : Nat → Int64) (_ : Nat → Nat → Int32) (_ : Nat → Nat → Int64) (_ : Nat → Nat → Option Nat) => (I_3336, J, ri, rj, rq))))) else (ap1 (va_up I_3227 194 (33 : Int32)) fun (I_3347 : Nat → Int32) => (I_3347, J, ri, rj, rq)))))) := rfl
set_option maxRecDepth 100000 in
def g_X6_advance_L0_2 (J : Nat → Int64) (ri : Nat → Nat → Int32) (rj : Nat → Nat → Int64) (rq : Nat → Nat → Option Nat) : Nat → (Nat → Int32) → vM
  | 0, I_2946 => (I_2946, J, ri, rj, rq)
  | n_3085 + 1, I_2946 => (ap1 (I_2946 197) fun (y_3091 : Int32) => (ap1 (I_2946 193) fun (y_3093 : Int32) => (if (y_3093) ≤ (y_3091) then (g_X6_advance_K52_3 J ri rj rq I_2946 y_3091 ) else (ap1 (ri 192 ((y_3091)).toNatClampNeg) fun (x_3360 : Int32) => (if x_3360 = (32 : Int32) then (ap1 ((y_3091) + (1 : Int32)) fun (x_3367 : Int32) => (ap1 (va_up I_2946 197 x_3367) fun (I_3369 : Nat → Int32) => ((g_X6_advance_L0_2 J ri rj rq n_3085) I_3369))) else (if x_3360 = (10 : Int32) then (ap1 ((y_3091) + (1 : Int32)) fun (x_3381 : Int32) => (ap1 (va_up I_2946 197 x_3381) fun (I_3383 : Nat → Int32) => ((g_X6_advance_L0_2 J ri rj rq n_3085) I_3383))) else (g_X6_advance_K52_3 J ri rj rq I_2946 y_3091 )))))))
set_option maxRecDepth 100000 in
theorem g_X6_advance_L0_2_e {J : Nat → Int64} {ri : Nat → Nat → Int32} {rj : Nat → Nat → Int64} {rq : Nat → Nat → Option Nat} {n_3085 : Nat} {I_2946 : Nat → Int32} : g_X6_advance_L0_2 J ri rj rq (n_3085 + 1) I_2946 = (ap1 (I_2946 197) fun (y_3091 : Int32) => (ap1 (I_2946 193) fun (y_3093 : Int32) => (if (y_3093) ≤ (y_3091) then (g_X6_advance_K52_3 J ri rj rq I_2946 y_3091 ) else (ap1 (ri 192 ((y_3091)).toNatClampNeg) fun (x_3360 : Int32) => (if x_3360 = (32 : Int32) then (ap1 ((y_3091) + (1 : Int32)) fun (x_3367 : Int32) => (ap1 (va_up I_2946 197 x_3367) fun (I_3369 : Nat → Int32) => ((g_X6_advance_L0_2 J ri rj rq n_3085) I_3369))) else (if x_3360 = (10 : Int32) then (ap1 ((y_3091) + (1 : Int32)) fun (x_3381 : Int32) => (ap1 (va_up I_2946 197 x_3381) fun (I_3383 : Nat → Int32) => ((g_X6_advance_L0_2 J ri rj rq n_3085) I_3383))) else (g_X6_advance_K52_3 J ri rj rq I_2946 y_3091 ))))))) := rfl
set_option maxRecDepth 100000 in
def g_X6_advance (I : Nat → Int32) (J : Nat → Int64) (ri : Nat → Nat → Int32) (rj : Nat → Nat → Int64) (rq : Nat → Nat → Option Nat) : vM := (ap1 (I 197) fun (y_2 : Int32) => (ap1 (I 193) fun (y_4 : Int32) => (if (y_4) ≤ (y_2) then (g_X6_advance_K52 I J ri rj rq y_2 ) else (ap1 (ri 192 ((y_2)).toNatClampNeg) fun (x_1651 : Int32) => (if x_1651 = (32 : Int32) then (ap1 ((y_2) + (1 : Int32)) fun (x_1658 : Int32) => (ap1 (va_up I 197 x_1658) fun (I_1660 : Nat → Int32) => (ap1 (I_1660 197) fun (y_2518 : Int32) => (g_X6_advance_L0 J ri rj rq ((300 - (y_2518).toInt).toNat + 1) I_1660)))) else (if x_1651 = (10 : Int32) then (ap1 ((y_2) + (1 : Int32)) fun (x_2527 : Int32) => (ap1 (va_up I 197 x_2527) fun (I_2529 : Nat → Int32) => (ap1 (I_2529 197) fun (y_3387 : Int32) => (g_X6_advance_L0_2 J ri rj rq ((300 - (y_3387).toInt).toNat + 1) I_2529)))) else (g_X6_advance_K52 I J ri rj rq y_2 )))))))
set_option maxRecDepth 100000 in
theorem g_X6_advance_e {I : Nat → Int32} {J : Nat → Int64} {ri : Nat → Nat → Int32} {rj : Nat → Nat → Int64} {rq : Nat → Nat → Option Nat} : g_X6_advance I J ri rj rq = (ap1 (I 197) fun (y_2 : Int32) => (ap1 (I 193) fun (y_4 : Int32) => (if (y_4) ≤ (y_2) then (g_X6_advance_K52 I J ri rj rq y_2 ) else (ap1 (ri 192 ((y_2)).toNatClampNeg) fun (x_1651 : Int32) => (if x_1651 = (32 : Int32) then (ap1 ((y_2) + (1 : Int32)) fun (x_1658 : Int32) => (ap1 (va_up I 197 x_1658) fun (I_1660 : Nat → Int32) => (ap1 (I_1660 197) fun (y_2518 : Int32) => (g_X6_advance_L0 J ri rj rq ((300 - (y_2518).toInt).toNat + 1) I_1660)))) else (if x_1651 = (10 : Int32) then (ap1 ((y_2) + (1 : Int32)) fun (x_2527 : Int32) => (ap1 (va_up I 197 x_2527) fun (I_2529 : Nat → Int32) => (ap1 (I_2529 197) fun (y_3387 : Int32) => (g_X6_advance_L0_2 J ri rj rq ((300 - (y_3387).toInt).toNat + 1) I_2529)))) else (g_X6_advance_K52 I J ri rj rq y_2 ))))))) := rfl
set_option maxHeartbeats 4000000 in
set_option maxRecDepth 100000 in
theorem s_X6_advance (l : Launch) (D : va_G) (t : pq_T) (σ : pq_S) (I : Nat → Nat → Int32) (J : Nat → Nat → Int64) (ri : Nat → Nat → Int32) (rj : Nat → Nat → Int64) (rq : Nat → Nat → Option Nat) (sz : Nat) (aK aV : Nat) (vF : Value) (tg : Nat → Nat) (hSH : SH σ tg) (hG0 : GS tg σ I ri rq) (this : Nat) (hL_this : this ∈ σ.1) (hK_this : σ.2.1 this = 6) (M : Nat) (hL_M : M ∈ σ.1) (hK_M : σ.2.1 M = 4) (hO_this : this = vo σ 6 M) : MetVS aK aV vF l yX6_advance (wa yX6_advance cX6_advance 1 none) ({ frames := 5, cells := 0, slots := 0, locals := 109 }) [.ref this] D t σ (I, J, ri, rj, rq) sz 0 0 (fun (u : pq_S × pq_M) => ∃ I' : Nat → Nat → Int32, u = (σ, I', J, ri, rj, rq) ∧ GX [197, 194] tg σ I ri rj I' ri rj rq ∧ ((I 197 this).toInt ≤ (I' 197 this).toInt) ∧ ((I' 194 this).toInt = 33 ∨ (I 197 this).toInt + 1 ≤ (I' 197 this).toInt) ∧ g_X6_advance (vI 4 σ M I) (vJ 4 σ M J) (vR 4 σ M ri) (vL 4 σ M rj) (vQ 4 σ M rq) = ((vI 4 σ M I'), (vJ 4 σ M J), (vR 4 σ M ri), (vL 4 σ M rj), (vQ 4 σ M rq)) ∧ FR 4 tg σ M (I, J, ri, rj, rq) (I', J, ri, rj, rq)) := by
  refine Met.ofW (cc := cX6_advance) (maxL := 1) (ret := none) (by decide +kernel) rfl ?_
  intro p e s m args below meth c s₁ B hml hv
  obtain ⟨rfl, ⟨hsz, hP, hK, hD0, hN⟩, hW0⟩ := hv
  have hx := B.exec
  have hb := B.bytes
  have hr := B.returns
  have hts := atoms_spec (ws := (wa yX6_advance cX6_advance 1 none)) B.pre
  have hown : s.vm.findClass RX6 = some m.cls := findClass_of_methodNamed B.named
  have hlocks := B.notSynchronized
  subst hsz
  have hD : va_D (pq_B t σ (I, J, ri, rj, rq) s.heap.size) (pq_P t σ (I, J, ri, rj, rq)) := hD0.self
  generalize hAe : pq_B t σ (I, J, ri, rj, rq) s.heap.size = A at hD hW0 ⊢
  have hA : ∀ q : Nat, s.heap.size ≤ q → A q := fun q h => by rw [← hAe]; exact Or.inr h
  have hS : va_S A s.heap s.heap [] := va_S.rf
  have hG : GX [197, 194] tg σ I ri rj I ri rj rq := ⟨hG0, fun _ _ _ => rfl, fun _ _ _ _ _ => rfl, fun _ _ _ _ _ => rfl⟩
  have hl := lv_entry ([.ref this]) (n := 1) (Nat.le_of_ble_eq_true rfl)
  rw [lg_entry_eq]
  generalize (lg_sl ([.ref this]) ++ List.replicate (1 - (lg_sl ([.ref this])).length) Slot.unset).toArray = ls at hl ⊢
  have hl : lv_has ls 1 [(0, .ref this)] := hl
  refine q_gen (fun Q hQ => ?_)
  have go : ∀ (H : Heap) (locs : List Loc) (ls : Array Slot), va_P D vwCl (pq_P t σ (I, J, ri, rj, rq)) H → va_D A (pq_P t σ (I, J, ri, rj, rq)) → va_S A s.heap H locs → lv_has ls 1 [(0, .ref this)] → W p l e ({ frames := 5, cells := 0, slots := 0, locals := 109 } : Room) s m (List.toArray ([.ref this] : List Value)) below meth c H locs 0 0 Q (F0 m 0 ls []) := by
    intro H locs ls hP hD hS hl
    have hVT : VT 4 σ tg M := vt_4 hSH hL_M hK_M
    have hFr : FR 4 tg σ M (I, J, ri, rj, rq) (I, J, ri, rj, rq) := fr_rf
    obtain ⟨F, hF0⟩ : ∃ F, F = g_X6_advance (vI 4 σ M I) (vJ 4 σ M J) (vR 4 σ M ri) (vL 4 σ M rj) (vQ 4 σ M rq) := ⟨_, rfl⟩
    have hF := hF0.trans g_X6_advance_e
    refine lv_aload_n hx hb dX6_advance_0 rfl (lv_at hl 0 rfl) ?_
    refine pg_f (v := .int (I 197 this)) (C := RX6) (T := TX6) (N := 6) hx hb hts (tw_i inlX6) hown hK hP hL_this hK_this (by decide +kernel) rfl 5 (by decide +kernel) (hts _ (tw_c tw_662)) rfl dX6_advance_1 ?_
    have h_1 : rg (I 197 this) 0 300 := GX.rI hG 197 rfl
    have uh_1 := h_1.1
    have vh_1 := h_1.2
    replace hF := hF.trans (ap_n (vI_e (f := 197) hO_this (by decide +kernel)))
    refine lv_aload_n hx hb dX6_advance_4 rfl (lv_at hl 0 rfl) ?_
    refine pg_f (v := .int (I 193 this)) (C := RX6) (T := TX6) (N := 6) hx hb hts (tw_i inlX6) hown hK hP hL_this hK_this (by decide +kernel) rfl 1 (by decide +kernel) (hts _ (tw_c tw_626)) rfl dX6_advance_5 ?_
    have h_3 : rg (I 193 this) 0 300 := GX.rI hG 193 rfl
    have uh_3 := h_3.1
    have vh_3 := h_3.2
    replace hF := hF.trans (ap_n (vI_e (f := 193) hO_this (by decide +kernel)))
    have K_1517 : ∀  (H : Heap) (locs : List Loc) (ls : Array Slot), F = g_X6_advance_K52 (vI 4 σ M I) (vJ 4 σ M J) (vR 4 σ M ri) (vL 4 σ M rj) (vQ 4 σ M rq) (I 197 this)  → FR 4 tg σ M (I, J, ri, rj, rq) (I, J, ri, rj, rq) → GX [197, 194] tg σ I ri rj I ri rj rq → va_P D vwCl (pq_P t σ (I, J, ri, rj, rq)) H → va_D A (pq_P t σ (I, J, ri, rj, rq)) → va_S A s.heap H locs → lv_has ls 1 [(0, .ref this)] → W p l e ({ frames := 5, cells := 0, slots := 0, locals := 109 } : Room) s m (List.toArray ([.ref this] : List Value)) below meth c H locs 0 0 Q (F0 m 52 ls []) := by
      intro H locs ls hF hFr hG hP hD hS hl
      replace hF := hF.trans g_X6_advance_K52_e
      refine lv_aload_n hx hb dX6_advance_52 rfl (lv_at hl 0 rfl) ?_
      refine lv_aload_n hx hb dX6_advance_53 rfl (lv_at hl 0 rfl) ?_
      refine pg_f (v := .int (I 197 this)) (C := RX6) (T := TX6) (N := 6) hx hb hts (tw_i inlX6) hown hK hP hL_this hK_this (by decide +kernel) rfl 5 (by decide +kernel) (hts _ (tw_c tw_662)) rfl dX6_advance_54 ?_
      refine pp_i (v := (I 197 this)) (ty := .int) (C := RX6) (T := TX6) (N := 6) hx hb hts (tw_i inlX6) tyX6 tyX6_ok nmX6 hown hK hP hD hS hL_this hK_this (by decide +kernel) rfl 3 195 (by decide +kernel) (hts _ (tw_c tw_667)) rfl (tyX6_ok 3 (by decide +kernel)) rfl rfl (Nat.le_of_ble_eq_true rfl) (ps_195 _ _ _ _ _) dX6_advance_57 (fun I_1518 H locs eI_1518 hP hD hS => ?_)
      replace hFr := fr_I (f := 195) hFr hO_this (by decide +kernel) eI_1518
      replace hF := hF.trans (ap_n (vI_st (f := 195) hO_this (by decide +kernel) eI_1518))
      have hG := GX.wI hG 195 rfl eI_1518 (rg_w h_1 (by decide +kernel)) (by decide +kernel)
      have tt_1519 : (I_1518 197 this).toInt = (I 197 this).toInt := by rw [eI_1518, pq_uf _ _ _ (by decide +kernel)]
      have tt_1520 : (I_1518 193 this).toInt = (I 193 this).toInt := by rw [eI_1518, pq_uf _ _ _ (by decide +kernel)]
      have tt_1521 : (I_1518 194 this).toInt = (I 194 this).toInt := by rw [eI_1518, pq_uf _ _ _ (by decide +kernel)]
      refine lv_aload_n hx hb dX6_advance_60 rfl (lv_at hl 0 rfl) ?_
      refine pg_f (v := .int (I_1518 197 this)) (C := RX6) (T := TX6) (N := 6) hx hb hts (tw_i inlX6) hown hK hP hL_this hK_this (by decide +kernel) rfl 5 (by decide +kernel) (hts _ (tw_c tw_662)) rfl dX6_advance_61 ?_
      have h_1522 : rg (I_1518 197 this) 0 300 := GX.rI hG 197 rfl
      have uh_1522 := h_1522.1
      have vh_1522 := h_1522.2
      replace hF := hF.trans (ap_n (vI_e (f := 197) hO_this (by decide +kernel)))
      refine lv_aload_n hx hb dX6_advance_64 rfl (lv_at hl 0 rfl) ?_
      refine pg_f (v := .int (I_1518 193 this)) (C := RX6) (T := TX6) (N := 6) hx hb hts (tw_i inlX6) hown hK hP hL_this hK_this (by decide +kernel) rfl 1 (by decide +kernel) (hts _ (tw_c tw_626)) rfl dX6_advance_65 ?_
      have h_1524 : rg (I_1518 193 this) 0 300 := GX.rI hG 193 rfl
      have uh_1524 := h_1524.1
      have vh_1524 := h_1524.2
      replace hF := hF.trans (ap_n (vI_e (f := 193) hO_this (by decide +kernel)))
      refine lv_icmp_lt (tgt := 80) hx hb dX6_advance_68 (by decide +kernel) (fun c_1526 => ?_) (fun c_1526 => ?_)
      · replace hF := hF.trans (if_pos c_1526)
        have tc_1531 : (I_1518 197 this).toInt < (I_1518 193 this).toInt := Int32.lt_iff_toInt_lt.mp c_1526
        have h_1532 : rg (I_1518 197 this) 0 299 := rg_lt1 c_1526 h_1522 h_1524 (by decide +kernel)
        have uh_1532 := h_1532.1
        have vh_1532 := h_1532.2
        have h_1533 : rg (I_1518 193 this) 1 300 := rg_lt2 c_1526 h_1522 h_1524 (by decide +kernel)
        have uh_1533 := h_1533.1
        have vh_1533 := h_1533.2
        refine lv_aload_n hx hb dX6_advance_80 rfl (lv_at hl 0 rfl) ?_
        obtain ⟨w_1534, hR_w_1534, hL_w_1534, hK_w_1534, hN_w_1534, hT_w_1534⟩ := sh_a hSH 192 (ci := 6) (kd := 13) (len := 300) rfl (by decide +kernel) hL_this hK_this
        have hO_w_1534 : w_1534 = vrow σ 192 M := vo_k (c := 6) hO_this hR_w_1534
        refine pg_f (v := .ref w_1534) (C := RX6) (T := TX6) (N := 6) hx hb hts (tw_i inlX6) hown hK hP hL_this hK_this (by decide +kernel) rfl 0 (by decide +kernel) (hts _ (tw_c tw_165)) (pq_hv rfl hR_w_1534) dX6_advance_81 ?_
        refine lv_aload_n hx hb dX6_advance_84 rfl (lv_at hl 0 rfl) ?_
        refine pg_f (v := .int (I_1518 197 this)) (C := RX6) (T := TX6) (N := 6) hx hb hts (tw_i inlX6) hown hK hP hL_this hK_this (by decide +kernel) rfl 5 (by decide +kernel) (hts _ (tw_c tw_662)) rfl dX6_advance_85 ?_
        refine pl_i hx hb hK hP hL_w_1534 hK_w_1534 hN_w_1534 (rg_in h_1532 (by decide +kernel)) dX6_advance_88 ?_
        refine lv_topi (fun x_1535 ex_1535 => ?_)
        replace hF := hF.trans (ap_n (vR_r hO_w_1534 (by decide +kernel) ex_1535))
        have ex_1535 : x_1535 = ri w_1534 ((I_1518 197 this)).toNatClampNeg := ex_1535
        refine pk_i (va_runS (As := [.int x_1535]) (rest := []) ⟨hx, hb, hml, hown, hts⟩ (s_X6_isDigit_x l D t σ I_1518 J ri rj rq H.size tg hSH hG.1 x_1535) (va_cwS 1 hts (tw_S tw_669 tw_670 tw_153 tw_671) rfl rfl rfl cd_yX6_isDigit_1 ⟨Nat.le_of_ble_eq_true rfl, Nat.le_of_ble_eq_true rfl⟩) ⟨pq_blind, pq_pre hK hN hP hD⟩ rfl rfl hl.1 rfl (lv_room (Nat.le_of_ble_eq_true rfl)) dX6_advance_89 ⟨Nat.le_of_ble_eq_true rfl, Nat.le_of_ble_eq_true rfl⟩) hD hS hA (fun x_1536 σ1 μ1 H locs hw_1537 hP hD hS => ?_)
        obtain ⟨hu_1538, hfn_1541, hr_1540⟩ := hw_1537
        obtain ⟨hu_1538a, hu_1538b⟩ := Prod.mk.inj hu_1538
        rw [hu_1538a, hu_1538b] at hP hD
        replace hF := hF.trans (ap_n hfn_1541.symm)
        have h_1543 : rg x_1536 0 1 := by rcases hr_1540 with ⟨q, -⟩ | ⟨q, -⟩ <;> rw [q] <;> exact ⟨by decide +kernel, by decide +kernel⟩
        have uh_1543 := h_1543.1
        have vh_1543 := h_1543.2
        refine lv_if_eq (tgt := 102) hx hb dX6_advance_92 (by decide +kernel) (fun c_1544 => ?_) (fun c_1544 => ?_)
        · replace hF := hF.trans (if_pos c_1544)
          have f_1552 := (hr_1540.resolve_left (fun q => absurd (q.1.symm.trans c_1544) (by decide +kernel))).2
          have tc_1553 : (x_1536).toInt = 0 := congrArg Int32.toInt c_1544
          have h_1554 : rg x_1536 0 0 := rg_and h_1543 (rg_of_eq c_1544 (rg_k (0 : Int32) 0 rfl)) (by decide +kernel)
          have uh_1554 := h_1554.1
          have vh_1554 := h_1554.2
          refine lv_aload_n hx hb dX6_advance_102 rfl (lv_at hl 0 rfl) ?_
          refine pg_f (v := .ref w_1534) (C := RX6) (T := TX6) (N := 6) hx hb hts (tw_i inlX6) hown hK hP hL_this hK_this (by decide +kernel) rfl 0 (by decide +kernel) (hts _ (tw_c tw_165)) (pq_hv rfl hR_w_1534) dX6_advance_103 ?_
          refine lv_aload_n hx hb dX6_advance_106 rfl (lv_at hl 0 rfl) ?_
          refine pg_f (v := .int (I_1518 197 this)) (C := RX6) (T := TX6) (N := 6) hx hb hts (tw_i inlX6) hown hK hP hL_this hK_this (by decide +kernel) rfl 5 (by decide +kernel) (hts _ (tw_c tw_662)) rfl dX6_advance_107 ?_
          refine pl_i hx hb hK hP hL_w_1534 hK_w_1534 hN_w_1534 (rg_in h_1532 (by decide +kernel)) dX6_advance_110 ?_
          refine lv_tov x_1535 ex_1535.symm ?_
          refine pk_i (va_runS (As := [.int x_1535]) (rest := []) ⟨hx, hb, hml, hown, hts⟩ (s_X6_isLetter_x l D t σ I_1518 J ri rj rq H.size tg hSH hG.1 x_1535) (va_cwS 1 hts (tw_S tw_678 tw_679 tw_153 tw_680) rfl rfl rfl cd_yX6_isLetter_1 ⟨Nat.le_of_ble_eq_true rfl, Nat.le_of_ble_eq_true rfl⟩) ⟨pq_blind, pq_pre hK hN hP hD⟩ rfl rfl hl.1 rfl (lv_room (Nat.le_of_ble_eq_true rfl)) dX6_advance_111 ⟨Nat.le_of_ble_eq_true rfl, Nat.le_of_ble_eq_true rfl⟩) hD hS hA (fun x_1555 σ1 μ1 H locs hw_1556 hP hD hS => ?_)
          obtain ⟨hu_1557, hfn_1560, hr_1559⟩ := hw_1556
          obtain ⟨hu_1557a, hu_1557b⟩ := Prod.mk.inj hu_1557
          rw [hu_1557a, hu_1557b] at hP hD
          replace hF := hF.trans (ap_n hfn_1560.symm)
          have h_1562 : rg x_1555 0 1 := by rcases hr_1559 with ⟨q, -⟩ | ⟨q, -⟩ <;> rw [q] <;> exact ⟨by decide +kernel, by decide +kernel⟩
          have uh_1562 := h_1562.1
          have vh_1562 := h_1562.2
          refine lv_if_eq (tgt := 124) hx hb dX6_advance_114 (by decide +kernel) (fun c_1563 => ?_) (fun c_1563 => ?_)
          · replace hF := hF.trans (if_pos c_1563)
            have f_1571 := (hr_1559.resolve_left (fun q => absurd (q.1.symm.trans c_1563) (by decide +kernel))).2
            have tc_1572 : (x_1555).toInt = 0 := congrArg Int32.toInt c_1563
            have h_1573 : rg x_1555 0 0 := rg_and h_1562 (rg_of_eq c_1563 (rg_k (0 : Int32) 0 rfl)) (by decide +kernel)
            have uh_1573 := h_1573.1
            have vh_1573 := h_1573.2
            refine lv_aload_n hx hb dX6_advance_124 rfl (lv_at hl 0 rfl) ?_
            refine lv_aload_n hx hb dX6_advance_125 rfl (lv_at hl 0 rfl) ?_
            refine pg_f (v := .ref w_1534) (C := RX6) (T := TX6) (N := 6) hx hb hts (tw_i inlX6) hown hK hP hL_this hK_this (by decide +kernel) rfl 0 (by decide +kernel) (hts _ (tw_c tw_165)) (pq_hv rfl hR_w_1534) dX6_advance_126 ?_
            refine lv_aload_n hx hb dX6_advance_129 rfl (lv_at hl 0 rfl) ?_
            refine pg_f (v := .int (I_1518 197 this)) (C := RX6) (T := TX6) (N := 6) hx hb hts (tw_i inlX6) hown hK hP hL_this hK_this (by decide +kernel) rfl 5 (by decide +kernel) (hts _ (tw_c tw_662)) rfl dX6_advance_130 ?_
            refine pl_i hx hb hK hP hL_w_1534 hK_w_1534 hN_w_1534 (rg_in h_1532 (by decide +kernel)) dX6_advance_133 ?_
            refine lv_tov x_1535 ex_1535.symm ?_
            refine pk_i (va_runS (As := [.int x_1535]) (rest := [.ref this]) ⟨hx, hb, hml, hown, hts⟩ (s_X6_signOf l D t σ I_1518 J ri rj rq H.size tg hSH hG.1 x_1535) (va_cwS 1 hts (tw_S tw_734 tw_735 tw_153 tw_736) rfl rfl rfl cd_yX6_signOf_1 ⟨Nat.le_of_ble_eq_true rfl, Nat.le_of_ble_eq_true rfl⟩) ⟨pq_blind, pq_pre hK hN hP hD⟩ rfl rfl hl.1 rfl (lv_room (Nat.le_of_ble_eq_true rfl)) dX6_advance_134 ⟨Nat.le_of_ble_eq_true rfl, Nat.le_of_ble_eq_true rfl⟩) hD hS hA (fun x_1574 σ1 μ1 H locs hw_1575 hP hD hS => ?_)
            obtain ⟨hu_1576, hfn_1579, hr_1578⟩ := hw_1575
            obtain ⟨hu_1576a, hu_1576b⟩ := Prod.mk.inj hu_1576
            rw [hu_1576a, hu_1576b] at hP hD
            replace hF := hF.trans (ap_n hfn_1579.symm)
            refine pp_i (v := x_1574) (ty := .int) (C := RX6) (T := TX6) (N := 6) hx hb hts (tw_i inlX6) tyX6 tyX6_ok nmX6 hown hK hP hD hS hL_this hK_this (by decide +kernel) rfl 2 194 (by decide +kernel) (hts _ (tw_c tw_668)) rfl (tyX6_ok 2 (by decide +kernel)) rfl rfl (Nat.le_of_ble_eq_true rfl) (ps_194 _ _ _ _ _) dX6_advance_137 (fun I_1581 H locs eI_1581 hP hD hS => ?_)
            replace hFr := fr_I (f := 194) hFr hO_this (by decide +kernel) eI_1581
            replace hF := hF.trans (ap_n (vI_st (f := 194) hO_this (by decide +kernel) eI_1581))
            have hG := GX.wI hG 194 rfl eI_1581 (rg_w hr_1578 (by decide +kernel)) (by decide +kernel)
            have tt_1582 : (I_1581 197 this).toInt = (I_1518 197 this).toInt := by rw [eI_1581, pq_uf _ _ _ (by decide +kernel)]
            have tt_1583 : (I_1581 193 this).toInt = (I_1518 193 this).toInt := by rw [eI_1581, pq_uf _ _ _ (by decide +kernel)]
            have tt_1584 : (I_1581 194 this).toInt = (x_1574).toInt := by rw [eI_1581, pq_us]
            refine lv_aload_n hx hb dX6_advance_140 rfl (lv_at hl 0 rfl) ?_
            refine lv_dup hx hb dX6_advance_141 rfl ?_
            refine pg_f (v := .int (I_1581 197 this)) (C := RX6) (T := TX6) (N := 6) hx hb hts (tw_i inlX6) hown hK hP hL_this hK_this (by decide +kernel) rfl 5 (by decide +kernel) (hts _ (tw_c tw_662)) rfl dX6_advance_142 ?_
            have h_1585 : rg (I_1581 197 this) 0 299 := (by rw [eI_1581, pq_uf _ _ _ (by decide +kernel)]; exact h_1532)
            have uh_1585 := h_1585.1
            have vh_1585 := h_1585.2
            replace hF := hF.trans (ap_n (vI_e (f := 197) hO_this (by decide +kernel)))
            refine lv_iconst (v := 1) hx hb dX6_advance_145 (by decide +kernel) ?_
            refine lv_iadd hx hb dX6_advance_146 ?_
            refine lv_topi (fun x_1587 ex_1587 => ?_)
            replace hF := hF.trans (ap_n ex_1587)
            have h_1588 : rg x_1587 1 300 := rg_of_eq ex_1587 (rg_add h_1585 (rg_k (1 : Int32) 1 rfl) (by decide +kernel))
            have uh_1588 := h_1588.1
            have vh_1588 := h_1588.2
            have tx_1587 : (x_1587).toInt = (I_1581 197 this).toInt + 1 := by rw [ex_1587]; exact i_add_rg (a2 := (I_1581 197 this).toInt) (b2 := 1) rfl rfl h_1585 (rg_k (1 : Int32) 1 rfl) (by decide +kernel)
            refine pp_i (v := x_1587) (ty := .int) (C := RX6) (T := TX6) (N := 6) hx hb hts (tw_i inlX6) tyX6 tyX6_ok nmX6 hown hK hP hD hS hL_this hK_this (by decide +kernel) rfl 5 197 (by decide +kernel) (hts _ (tw_c tw_662)) rfl (tyX6_ok 5 (by decide +kernel)) rfl rfl (Nat.le_of_ble_eq_true rfl) (ps_197 _ _ _ _ _) dX6_advance_147 (fun I_1589 H locs eI_1589 hP hD hS => ?_)
            replace hFr := fr_I (f := 197) hFr hO_this (by decide +kernel) eI_1589
            replace hF := hF.trans (ap_n (vI_st (f := 197) hO_this (by decide +kernel) eI_1589))
            have hG := GX.wI hG 197 rfl eI_1589 (rg_w h_1588 (by decide +kernel)) (by decide +kernel)
            have tt_1590 : (I_1589 197 this).toInt = (x_1587).toInt := by rw [eI_1589, pq_us]
            have tt_1591 : (I_1589 193 this).toInt = (I_1581 193 this).toInt := by rw [eI_1589, pq_uf _ _ _ (by decide +kernel)]
            have tt_1592 : (I_1589 194 this).toInt = (I_1581 194 this).toInt := by rw [eI_1589, pq_uf _ _ _ (by decide +kernel)]
            refine lv_aload_n hx hb dX6_advance_150 rfl (lv_at hl 0 rfl) ?_
            refine pk_v (va_runV (As := []) (rest := []) ⟨hx, hb, hml, hown, hts⟩ (s_X6_takeLonger_x l D t σ I_1589 J ri rj rq H.size tg hSH hG.1 this hL_this hK_this M hL_M hK_M hO_this) (cwV 0 hts (tw_V tw_737 tw_738 tw_739 tw_153 tw_740) rfl rfl rfl cv_yX6_takeLonger_0 ⟨Nat.le_of_ble_eq_true rfl, Nat.le_of_ble_eq_true rfl⟩) ⟨pq_blind, pq_recv hK hP hL_this hK_this (by decide +kernel) rfl, pq_pre hK hN hP hD⟩ rfl rfl hl.1 rfl (lv_room (Nat.le_of_ble_eq_true rfl)) dX6_advance_151 ⟨Nat.le_of_ble_eq_true rfl, Nat.le_of_ble_eq_true rfl⟩) hD hS hA (fun σ1 μ1 H locs hw_1594 hP hD hS => ?_)
            obtain ⟨I_1595, hu_1596, hg_1597, hp_1599, hfn_1600, hfr_1601⟩ := hw_1594
            obtain ⟨hu_1596a, hu_1596b⟩ := Prod.mk.inj hu_1596
            rw [hu_1596a, hu_1596b] at hP hD
            replace hF := hF.trans (bv_n hfn_1600)
            replace hFr := fr_tr hFr hfr_1601
            have tt_1602 := hp_1599
            have hG := GX.tr hG hg_1597 (by decide +kernel)
            have tt_1603 : (I_1595 193 this).toInt = (I_1589 193 this).toInt := by rw [hg_1597.2.1 193 (by decide +kernel) (by decide +kernel)]
            subst hQ
            exact W.vret hx hb hr (fun t1 ht hW => ⟨⟨(σ, I_1595, J, ri, rj, rq), rfl, ⟨I_1595, rfl, hG, (by omega), (by omega), (hF0.symm.trans hF), hFr⟩, by rw [ht]; exact hP, va_K.moved hW.alike hK, hD⟩, hS.F ht⟩) hS.2.2 dX6_advance_154
          · replace hF := hF.trans (if_neg c_1563)
            obtain ⟨f_1604, f_1605⟩ := (hr_1559.resolve_right (fun q => c_1563 q.1)).2
            have uf_1604 := f_1604.1
            have vf_1604 := f_1604.2
            have tc_1606 : (x_1555).toInt ≠ 0 := fun q => c_1563 (Int32.toInt_inj.mp q)
            have h_1607 : rg x_1555 1 1 := rg_ne c_1563 h_1562 0 rfl (by decide +kernel)
            have uh_1607 := h_1607.1
            have vh_1607 := h_1607.2
            refine lv_aload_n hx hb dX6_advance_117 rfl (lv_at hl 0 rfl) ?_
            have tt_1608 := congrArg Int32.toInt ex_1535
            refine pk_v (va_runV (As := []) (rest := []) ⟨hx, hb, hml, hown, hts⟩ (s_X6_takeWord l D t σ I_1518 J ri rj rq H.size aK aV vF tg hSH hG.1 this hL_this hK_this w_1534 hR_w_1534 hL_w_1534 hK_w_1534 hN_w_1534 hT_w_1534 M hL_M hK_M hO_this (by omega) (by omega)) (cwV 0 hts (tw_V tw_681 tw_682 tw_683 tw_153 tw_684) rfl rfl rfl cv_yX6_takeWord_0 ⟨Nat.le_of_ble_eq_true rfl, Nat.le_of_ble_eq_true rfl⟩) ⟨pq_blindS, pq_recv hK hP hL_this hK_this (by decide +kernel) rfl, pq_preS hK hN hP hD hS hA hW0⟩ rfl rfl hl.1 rfl (lv_room (Nat.le_of_ble_eq_true rfl)) dX6_advance_118 ⟨Nat.le_of_ble_eq_true rfl, Nat.le_of_ble_eq_true rfl⟩) hD hS hA (fun σ1 μ1 H locs hw_1610 hP hD hS => ?_)
            obtain ⟨I_1611, hu_1612, hg_1613, hp_1615, hfn_1616, hfr_1617⟩ := hw_1610
            obtain ⟨hu_1612a, hu_1612b⟩ := Prod.mk.inj hu_1612
            rw [hu_1612a, hu_1612b] at hP hD
            replace hF := hF.trans (bv_n hfn_1616)
            replace hFr := fr_tr hFr hfr_1617
            have tt_1618 := hp_1615
            have hG := GX.tr hG hg_1613 (by decide +kernel)
            have tt_1619 : (I_1611 193 this).toInt = (I_1518 193 this).toInt := by rw [hg_1613.2.1 193 (by decide +kernel) (by decide +kernel)]
            refine lv_goto (tgt := 154) hx hb dX6_advance_121 (by decide +kernel) ?_
            subst hQ
            exact W.vret hx hb hr (fun t1 ht hW => ⟨⟨(σ, I_1611, J, ri, rj, rq), rfl, ⟨I_1611, rfl, hG, (by omega), (by omega), (hF0.symm.trans hF), hFr⟩, by rw [ht]; exact hP, va_K.moved hW.alike hK, hD⟩, hS.F ht⟩) hS.2.2 dX6_advance_154
        · replace hF := hF.trans (if_neg c_1544)
          obtain ⟨f_1620, f_1621⟩ := (hr_1540.resolve_right (fun q => c_1544 q.1)).2
          have uf_1620 := f_1620.1
          have vf_1620 := f_1620.2
          have tc_1622 : (x_1536).toInt ≠ 0 := fun q => c_1544 (Int32.toInt_inj.mp q)
          have h_1623 : rg x_1536 1 1 := rg_ne c_1544 h_1543 0 rfl (by decide +kernel)
          have uh_1623 := h_1623.1
          have vh_1623 := h_1623.2
          refine lv_aload_n hx hb dX6_advance_95 rfl (lv_at hl 0 rfl) ?_
          have tt_1624 := congrArg Int32.toInt ex_1535
          refine pk_v (va_runV (As := []) (rest := []) ⟨hx, hb, hml, hown, hts⟩ (s_X6_takeNumber_x l D t σ I_1518 J ri rj rq H.size tg hSH hG.1 this hL_this hK_this w_1534 hR_w_1534 hL_w_1534 hK_w_1534 hN_w_1534 hT_w_1534 M hL_M hK_M hO_this (by omega) (by omega)) (cwV 0 hts (tw_V tw_672 tw_673 tw_674 tw_153 tw_675) rfl rfl rfl cv_yX6_takeNumber_0 ⟨Nat.le_of_ble_eq_true rfl, Nat.le_of_ble_eq_true rfl⟩) ⟨pq_blind, pq_recv hK hP hL_this hK_this (by decide +kernel) rfl, pq_pre hK hN hP hD⟩ rfl rfl hl.1 rfl (lv_room (Nat.le_of_ble_eq_true rfl)) dX6_advance_96 ⟨Nat.le_of_ble_eq_true rfl, Nat.le_of_ble_eq_true rfl⟩) hD hS hA (fun σ1 μ1 H locs hw_1626 hP hD hS => ?_)
          obtain ⟨I_1627, hu_1628, hg_1629, hp_1631, hfn_1632, hfr_1633⟩ := hw_1626
          obtain ⟨hu_1628a, hu_1628b⟩ := Prod.mk.inj hu_1628
          rw [hu_1628a, hu_1628b] at hP hD
          replace hF := hF.trans (bv_n hfn_1632)
          replace hFr := fr_tr hFr hfr_1633
          have tt_1634 := hp_1631
          have hG := GX.tr hG hg_1629 (by decide +kernel)
          have tt_1635 : (I_1627 193 this).toInt = (I_1518 193 this).toInt := by rw [hg_1629.2.1 193 (by decide +kernel) (by decide +kernel)]
          refine lv_goto (tgt := 154) hx hb dX6_advance_99 (by decide +kernel) ?_
          subst hQ
          exact W.vret hx hb hr (fun t1 ht hW => ⟨⟨(σ, I_1627, J, ri, rj, rq), rfl, ⟨I_1627, rfl, hG, (by omega), (by omega), (hF0.symm.trans hF), hFr⟩, by rw [ht]; exact hP, va_K.moved hW.alike hK, hD⟩, hS.F ht⟩) hS.2.2 dX6_advance_154
      · replace hF := hF.trans (if_neg c_1526)
        have tc_1636 : (I_1518 193 this).toInt ≤ (I_1518 197 this).toInt := Int32.le_iff_toInt_le.mp (nlt c_1526)
        refine lv_aload_n hx hb dX6_advance_71 rfl (lv_at hl 0 rfl) ?_
        refine lv_bipush (v := 33) hx hb dX6_advance_72 (by decide +kernel) ?_
        refine pp_i (v := 33) (ty := .int) (C := RX6) (T := TX6) (N := 6) hx hb hts (tw_i inlX6) tyX6 tyX6_ok nmX6 hown hK hP hD hS hL_this hK_this (by decide +kernel) rfl 2 194 (by decide +kernel) (hts _ (tw_c tw_668)) rfl (tyX6_ok 2 (by decide +kernel)) rfl rfl (Nat.le_of_ble_eq_true rfl) (ps_194 _ _ _ _ _) dX6_advance_74 (fun I_1637 H locs eI_1637 hP hD hS => ?_)
        replace hFr := fr_I (f := 194) hFr hO_this (by decide +kernel) eI_1637
        replace hF := hF.trans (ap_n (vI_st (f := 194) hO_this (by decide +kernel) eI_1637))
        have hG := GX.wI hG 194 rfl eI_1637 (rg_w (rg_k (33 : Int32) 33 rfl) (by decide +kernel)) (by decide +kernel)
        have tt_1638 : (I_1637 197 this).toInt = (I_1518 197 this).toInt := by rw [eI_1637, pq_uf _ _ _ (by decide +kernel)]
        have tt_1639 : (I_1637 193 this).toInt = (I_1518 193 this).toInt := by rw [eI_1637, pq_uf _ _ _ (by decide +kernel)]
        have tt_1640 : (I_1637 194 this).toInt = 33 := by rw [eI_1637, pq_us]; rfl
        refine lv_goto (tgt := 154) hx hb dX6_advance_77 (by decide +kernel) ?_
        subst hQ
        exact W.vret hx hb hr (fun t1 ht hW => ⟨⟨(σ, I_1637, J, ri, rj, rq), rfl, ⟨I_1637, rfl, hG, (by omega), (by omega), (hF0.symm.trans hF), hFr⟩, by rw [ht]; exact hP, va_K.moved hW.alike hK, hD⟩, hS.F ht⟩) hS.2.2 dX6_advance_154
    refine lv_icmp_ge (tgt := 52) hx hb dX6_advance_8 (by decide +kernel) (fun c_1641 => ?_) (fun c_1641 => ?_)
    · replace hF := hF.trans (if_pos c_1641)
      have tc_1646 : (I 193 this).toInt ≤ (I 197 this).toInt := Int32.le_iff_toInt_le.mp c_1641
      exact K_1517 _ _ _ hF hFr hG hP hD hS (lv_sub hl [0] rfl)
    · replace hF := hF.trans (if_neg c_1641)
      have tc_1647 : (I 197 this).toInt < (I 193 this).toInt := Int32.lt_iff_toInt_lt.mp (nle c_1641)
      have h_1648 : rg (I 197 this) 0 299 := rg_lt1 (nle c_1641) h_1 h_3 (by decide +kernel)
      have uh_1648 := h_1648.1
      have vh_1648 := h_1648.2
      have h_1649 : rg (I 193 this) 1 300 := rg_lt2 (nle c_1641) h_1 h_3 (by decide +kernel)
      have uh_1649 := h_1649.1
      have vh_1649 := h_1649.2
      refine lv_aload_n hx hb dX6_advance_11 rfl (lv_at hl 0 rfl) ?_
      obtain ⟨w_1650, hR_w_1650, hL_w_1650, hK_w_1650, hN_w_1650, hT_w_1650⟩ := sh_a hSH 192 (ci := 6) (kd := 13) (len := 300) rfl (by decide +kernel) hL_this hK_this
      have hO_w_1650 : w_1650 = vrow σ 192 M := vo_k (c := 6) hO_this hR_w_1650
      refine pg_f (v := .ref w_1650) (C := RX6) (T := TX6) (N := 6) hx hb hts (tw_i inlX6) hown hK hP hL_this hK_this (by decide +kernel) rfl 0 (by decide +kernel) (hts _ (tw_c tw_165)) (pq_hv rfl hR_w_1650) dX6_advance_12 ?_
      refine lv_aload_n hx hb dX6_advance_15 rfl (lv_at hl 0 rfl) ?_
      refine pg_f (v := .int (I 197 this)) (C := RX6) (T := TX6) (N := 6) hx hb hts (tw_i inlX6) hown hK hP hL_this hK_this (by decide +kernel) rfl 5 (by decide +kernel) (hts _ (tw_c tw_662)) rfl dX6_advance_16 ?_
      refine pl_i hx hb hK hP hL_w_1650 hK_w_1650 hN_w_1650 (rg_in h_1648 (by decide +kernel)) dX6_advance_19 ?_
      refine lv_topi (fun x_1651 ex_1651 => ?_)
      replace hF := hF.trans (ap_n (vR_r hO_w_1650 (by decide +kernel) ex_1651))
      have ex_1651 : x_1651 = ri w_1650 ((I 197 this)).toNatClampNeg := ex_1651
      refine lv_bipush (v := 32) hx hb dX6_advance_20 (by decide +kernel) ?_
      refine lv_icmp_eq (tgt := 39) hx hb dX6_advance_22 (by decide +kernel) (fun c_1652 => ?_) (fun c_1652 => ?_)
      · replace hF := hF.trans (if_pos c_1652)
        have tc_1656 : (x_1651).toInt = 32 := congrArg Int32.toInt c_1652
        have h_1657 : rg x_1651 32 32 := rg_and (rg_full _) (rg_of_eq c_1652 (rg_k (32 : Int32) 32 rfl)) (by decide +kernel)
        have uh_1657 := h_1657.1
        have vh_1657 := h_1657.2
        refine lv_aload_n hx hb dX6_advance_39 rfl (lv_at hl 0 rfl) ?_
        refine lv_dup hx hb dX6_advance_40 rfl ?_
        refine pg_f (v := .int (I 197 this)) (C := RX6) (T := TX6) (N := 6) hx hb hts (tw_i inlX6) hown hK hP hL_this hK_this (by decide +kernel) rfl 5 (by decide +kernel) (hts _ (tw_c tw_662)) rfl dX6_advance_41 ?_
        refine lv_iconst (v := 1) hx hb dX6_advance_44 (by decide +kernel) ?_
        refine lv_iadd hx hb dX6_advance_45 ?_
        refine lv_topi (fun x_1658 ex_1658 => ?_)
        replace hF := hF.trans (ap_n ex_1658)
        have h_1659 : rg x_1658 1 300 := rg_of_eq ex_1658 (rg_add h_1648 (rg_k (1 : Int32) 1 rfl) (by decide +kernel))
        have uh_1659 := h_1659.1
        have vh_1659 := h_1659.2
        have tx_1658 : (x_1658).toInt = (I 197 this).toInt + 1 := by rw [ex_1658]; exact i_add_rg (a2 := (I 197 this).toInt) (b2 := 1) rfl rfl h_1648 (rg_k (1 : Int32) 1 rfl) (by decide +kernel)
        refine pp_i (v := x_1658) (ty := .int) (C := RX6) (T := TX6) (N := 6) hx hb hts (tw_i inlX6) tyX6 tyX6_ok nmX6 hown hK hP hD hS hL_this hK_this (by decide +kernel) rfl 5 197 (by decide +kernel) (hts _ (tw_c tw_662)) rfl (tyX6_ok 5 (by decide +kernel)) rfl rfl (Nat.le_of_ble_eq_true rfl) (ps_197 _ _ _ _ _) dX6_advance_46 (fun I_1660 H locs eI_1660 hP hD hS => ?_)
        replace hFr := fr_I (f := 197) hFr hO_this (by decide +kernel) eI_1660
        replace hF := hF.trans (ap_n (vI_st (f := 197) hO_this (by decide +kernel) eI_1660))
        have hG := GX.wI hG 197 rfl eI_1660 (rg_w h_1659 (by decide +kernel)) (by decide +kernel)
        have tt_1661 : (I_1660 197 this).toInt = (x_1658).toInt := by rw [eI_1660, pq_us]
        have tt_1662 : (I_1660 193 this).toInt = (I 193 this).toInt := by rw [eI_1660, pq_uf _ _ _ (by decide +kernel)]
        have tt_1663 : (I_1660 194 this).toInt = (I 194 this).toInt := by rw [eI_1660, pq_uf _ _ _ (by decide +kernel)]
        refine lv_goto (tgt := 0) hx hb dX6_advance_49 (by decide +kernel) ?_
        have L_2217 : ∀ (n_2216 : Nat) (I_2077 : Nat → Nat → Int32) (H : Heap) (locs : List Loc) (ls : Array Slot), ((I 197 this).toInt ≤ (I_2077 197 this).toInt ∧ (I_2077 193 this).toInt = (I 193 this).toInt) → (300 - (I_2077 197 this).toInt).toNat < n_2216 → F = g_X6_advance_L0 (vJ 4 σ M J) (vR 4 σ M ri) (vL 4 σ M rj) (vQ 4 σ M rq) n_2216 (vI 4 σ M I_2077) → FR 4 tg σ M (I, J, ri, rj, rq) (I_2077, J, ri, rj, rq) → GX [197, 194] tg σ I ri rj I_2077 ri rj rq → va_P D vwCl (pq_P t σ (I_2077, J, ri, rj, rq)) H → va_D A (pq_P t σ (I_2077, J, ri, rj, rq)) → va_S A s.heap H locs → lv_has ls 1 [(0, .ref this)] → W p l e ({ frames := 5, cells := 0, slots := 0, locals := 109 } : Room) s m (List.toArray ([.ref this] : List Value)) below meth c H locs 0 0 Q (F0 m 0 ls []) := by
          intro n_2216
          induction n_2216 with
          | zero => intro I_2077 H locs ls hrel_2220 hm_2215 hF hFr hG hP hD hS hl; exact absurd hm_2215 (Nat.not_lt_zero _)
          | succ n_2216 ih_2218 =>
            intro I_2077 H locs ls hrel_2220 hm_2215 hF hFr hG hP hD hS hl
            replace hF := hF.trans g_X6_advance_L0_e
            refine lv_aload_n hx hb dX6_advance_0 rfl (lv_at hl 0 rfl) ?_
            refine pg_f (v := .int (I_2077 197 this)) (C := RX6) (T := TX6) (N := 6) hx hb hts (tw_i inlX6) hown hK hP hL_this hK_this (by decide +kernel) rfl 5 (by decide +kernel) (hts _ (tw_c tw_662)) rfl dX6_advance_1 ?_
            have h_2221 : rg (I_2077 197 this) 0 300 := GX.rI hG 197 rfl
            have uh_2221 := h_2221.1
            have vh_2221 := h_2221.2
            replace hF := hF.trans (ap_n (vI_e (f := 197) hO_this (by decide +kernel)))
            refine lv_aload_n hx hb dX6_advance_4 rfl (lv_at hl 0 rfl) ?_
            refine pg_f (v := .int (I_2077 193 this)) (C := RX6) (T := TX6) (N := 6) hx hb hts (tw_i inlX6) hown hK hP hL_this hK_this (by decide +kernel) rfl 1 (by decide +kernel) (hts _ (tw_c tw_626)) rfl dX6_advance_5 ?_
            have h_2223 : rg (I_2077 193 this) 1 300 := (by rw [hG.2.1 193 (by decide +kernel) (by decide +kernel)]; exact h_1649)
            have uh_2223 := h_2223.1
            have vh_2223 := h_2223.2
            replace hF := hF.trans (ap_n (vI_e (f := 193) hO_this (by decide +kernel)))
            have K_2357 : ∀  (H : Heap) (locs : List Loc) (ls : Array Slot), F = g_X6_advance_K52_2 (vJ 4 σ M J) (vR 4 σ M ri) (vL 4 σ M rj) (vQ 4 σ M rq) (vI 4 σ M I_2077) (I_2077 197 this)  → FR 4 tg σ M (I, J, ri, rj, rq) (I_2077, J, ri, rj, rq) → GX [197, 194] tg σ I ri rj I_2077 ri rj rq → va_P D vwCl (pq_P t σ (I_2077, J, ri, rj, rq)) H → va_D A (pq_P t σ (I_2077, J, ri, rj, rq)) → va_S A s.heap H locs → lv_has ls 1 [(0, .ref this)] → W p l e ({ frames := 5, cells := 0, slots := 0, locals := 109 } : Room) s m (List.toArray ([.ref this] : List Value)) below meth c H locs 0 0 Q (F0 m 52 ls []) := by
              intro H locs ls hF hFr hG hP hD hS hl
              replace hF := hF.trans g_X6_advance_K52_2_e
              refine lv_aload_n hx hb dX6_advance_52 rfl (lv_at hl 0 rfl) ?_
              refine lv_aload_n hx hb dX6_advance_53 rfl (lv_at hl 0 rfl) ?_
              refine pg_f (v := .int (I_2077 197 this)) (C := RX6) (T := TX6) (N := 6) hx hb hts (tw_i inlX6) hown hK hP hL_this hK_this (by decide +kernel) rfl 5 (by decide +kernel) (hts _ (tw_c tw_662)) rfl dX6_advance_54 ?_
              refine pp_i (v := (I_2077 197 this)) (ty := .int) (C := RX6) (T := TX6) (N := 6) hx hb hts (tw_i inlX6) tyX6 tyX6_ok nmX6 hown hK hP hD hS hL_this hK_this (by decide +kernel) rfl 3 195 (by decide +kernel) (hts _ (tw_c tw_667)) rfl (tyX6_ok 3 (by decide +kernel)) rfl rfl (Nat.le_of_ble_eq_true rfl) (ps_195 _ _ _ _ _) dX6_advance_57 (fun I_2358 H locs eI_2358 hP hD hS => ?_)
              replace hFr := fr_I (f := 195) hFr hO_this (by decide +kernel) eI_2358
              replace hF := hF.trans (ap_n (vI_st (f := 195) hO_this (by decide +kernel) eI_2358))
              have hG := GX.wI hG 195 rfl eI_2358 (rg_w h_2221 (by decide +kernel)) (by decide +kernel)
              have tt_2359 : (I_2358 197 this).toInt = (I_2077 197 this).toInt := by rw [eI_2358, pq_uf _ _ _ (by decide +kernel)]
              have tt_2360 : (I_2358 193 this).toInt = (I_2077 193 this).toInt := by rw [eI_2358, pq_uf _ _ _ (by decide +kernel)]
              have tt_2361 : (I_2358 194 this).toInt = (I_2077 194 this).toInt := by rw [eI_2358, pq_uf _ _ _ (by decide +kernel)]
              refine lv_aload_n hx hb dX6_advance_60 rfl (lv_at hl 0 rfl) ?_
              refine pg_f (v := .int (I_2358 197 this)) (C := RX6) (T := TX6) (N := 6) hx hb hts (tw_i inlX6) hown hK hP hL_this hK_this (by decide +kernel) rfl 5 (by decide +kernel) (hts _ (tw_c tw_662)) rfl dX6_advance_61 ?_
              have h_2362 : rg (I_2358 197 this) 0 300 := GX.rI hG 197 rfl
              have uh_2362 := h_2362.1
              have vh_2362 := h_2362.2
              replace hF := hF.trans (ap_n (vI_e (f := 197) hO_this (by decide +kernel)))
              refine lv_aload_n hx hb dX6_advance_64 rfl (lv_at hl 0 rfl) ?_
              refine pg_f (v := .int (I_2358 193 this)) (C := RX6) (T := TX6) (N := 6) hx hb hts (tw_i inlX6) hown hK hP hL_this hK_this (by decide +kernel) rfl 1 (by decide +kernel) (hts _ (tw_c tw_626)) rfl dX6_advance_65 ?_
              have h_2364 : rg (I_2358 193 this) 1 300 := (by rw [hG.2.1 193 (by decide +kernel) (by decide +kernel)]; exact h_1649)
              have uh_2364 := h_2364.1
              have vh_2364 := h_2364.2
              replace hF := hF.trans (ap_n (vI_e (f := 193) hO_this (by decide +kernel)))
              refine lv_icmp_lt (tgt := 80) hx hb dX6_advance_68 (by decide +kernel) (fun c_2366 => ?_) (fun c_2366 => ?_)
              · replace hF := hF.trans (if_pos c_2366)
                have tc_2371 : (I_2358 197 this).toInt < (I_2358 193 this).toInt := Int32.lt_iff_toInt_lt.mp c_2366
                have h_2372 : rg (I_2358 197 this) 0 299 := rg_lt1 c_2366 h_2362 h_2364 (by decide +kernel)
                have uh_2372 := h_2372.1
                have vh_2372 := h_2372.2
                refine lv_aload_n hx hb dX6_advance_80 rfl (lv_at hl 0 rfl) ?_
                refine pg_f (v := .ref w_1650) (C := RX6) (T := TX6) (N := 6) hx hb hts (tw_i inlX6) hown hK hP hL_this hK_this (by decide +kernel) rfl 0 (by decide +kernel) (hts _ (tw_c tw_165)) (pq_hv rfl hR_w_1650) dX6_advance_81 ?_
                refine lv_aload_n hx hb dX6_advance_84 rfl (lv_at hl 0 rfl) ?_
                refine pg_f (v := .int (I_2358 197 this)) (C := RX6) (T := TX6) (N := 6) hx hb hts (tw_i inlX6) hown hK hP hL_this hK_this (by decide +kernel) rfl 5 (by decide +kernel) (hts _ (tw_c tw_662)) rfl dX6_advance_85 ?_
                refine pl_i hx hb hK hP hL_w_1650 hK_w_1650 hN_w_1650 (rg_in h_2372 (by decide +kernel)) dX6_advance_88 ?_
                refine lv_topi (fun x_2373 ex_2373 => ?_)
                replace hF := hF.trans (ap_n (vR_r hO_w_1650 (by decide +kernel) ex_2373))
                have ex_2373 : x_2373 = ri w_1650 ((I_2358 197 this)).toNatClampNeg := ex_2373
                refine pk_i (va_runS (As := [.int x_2373]) (rest := []) ⟨hx, hb, hml, hown, hts⟩ (s_X6_isDigit_x l D t σ I_2358 J ri rj rq H.size tg hSH hG.1 x_2373) (va_cwS 1 hts (tw_S tw_669 tw_670 tw_153 tw_671) rfl rfl rfl cd_yX6_isDigit_1 ⟨Nat.le_of_ble_eq_true rfl, Nat.le_of_ble_eq_true rfl⟩) ⟨pq_blind, pq_pre hK hN hP hD⟩ rfl rfl hl.1 rfl (lv_room (Nat.le_of_ble_eq_true rfl)) dX6_advance_89 ⟨Nat.le_of_ble_eq_true rfl, Nat.le_of_ble_eq_true rfl⟩) hD hS hA (fun x_2374 σ1 μ1 H locs hw_2375 hP hD hS => ?_)
                obtain ⟨hu_2376, hfn_2379, hr_2378⟩ := hw_2375
                obtain ⟨hu_2376a, hu_2376b⟩ := Prod.mk.inj hu_2376
                rw [hu_2376a, hu_2376b] at hP hD
                replace hF := hF.trans (ap_n hfn_2379.symm)
                have h_2381 : rg x_2374 0 1 := by rcases hr_2378 with ⟨q, -⟩ | ⟨q, -⟩ <;> rw [q] <;> exact ⟨by decide +kernel, by decide +kernel⟩
                have uh_2381 := h_2381.1
                have vh_2381 := h_2381.2
                refine lv_if_eq (tgt := 102) hx hb dX6_advance_92 (by decide +kernel) (fun c_2382 => ?_) (fun c_2382 => ?_)
                · replace hF := hF.trans (if_pos c_2382)
                  have f_2390 := (hr_2378.resolve_left (fun q => absurd (q.1.symm.trans c_2382) (by decide +kernel))).2
                  have tc_2391 : (x_2374).toInt = 0 := congrArg Int32.toInt c_2382
                  have h_2392 : rg x_2374 0 0 := rg_and h_2381 (rg_of_eq c_2382 (rg_k (0 : Int32) 0 rfl)) (by decide +kernel)
                  have uh_2392 := h_2392.1
                  have vh_2392 := h_2392.2
                  refine lv_aload_n hx hb dX6_advance_102 rfl (lv_at hl 0 rfl) ?_
                  refine pg_f (v := .ref w_1650) (C := RX6) (T := TX6) (N := 6) hx hb hts (tw_i inlX6) hown hK hP hL_this hK_this (by decide +kernel) rfl 0 (by decide +kernel) (hts _ (tw_c tw_165)) (pq_hv rfl hR_w_1650) dX6_advance_103 ?_
                  refine lv_aload_n hx hb dX6_advance_106 rfl (lv_at hl 0 rfl) ?_
                  refine pg_f (v := .int (I_2358 197 this)) (C := RX6) (T := TX6) (N := 6) hx hb hts (tw_i inlX6) hown hK hP hL_this hK_this (by decide +kernel) rfl 5 (by decide +kernel) (hts _ (tw_c tw_662)) rfl dX6_advance_107 ?_
                  refine pl_i hx hb hK hP hL_w_1650 hK_w_1650 hN_w_1650 (rg_in h_2372 (by decide +kernel)) dX6_advance_110 ?_
                  refine lv_tov x_2373 ex_2373.symm ?_
                  refine pk_i (va_runS (As := [.int x_2373]) (rest := []) ⟨hx, hb, hml, hown, hts⟩ (s_X6_isLetter_x l D t σ I_2358 J ri rj rq H.size tg hSH hG.1 x_2373) (va_cwS 1 hts (tw_S tw_678 tw_679 tw_153 tw_680) rfl rfl rfl cd_yX6_isLetter_1 ⟨Nat.le_of_ble_eq_true rfl, Nat.le_of_ble_eq_true rfl⟩) ⟨pq_blind, pq_pre hK hN hP hD⟩ rfl rfl hl.1 rfl (lv_room (Nat.le_of_ble_eq_true rfl)) dX6_advance_111 ⟨Nat.le_of_ble_eq_true rfl, Nat.le_of_ble_eq_true rfl⟩) hD hS hA (fun x_2393 σ1 μ1 H locs hw_2394 hP hD hS => ?_)
                  obtain ⟨hu_2395, hfn_2398, hr_2397⟩ := hw_2394
                  obtain ⟨hu_2395a, hu_2395b⟩ := Prod.mk.inj hu_2395
                  rw [hu_2395a, hu_2395b] at hP hD
                  replace hF := hF.trans (ap_n hfn_2398.symm)
                  have h_2400 : rg x_2393 0 1 := by rcases hr_2397 with ⟨q, -⟩ | ⟨q, -⟩ <;> rw [q] <;> exact ⟨by decide +kernel, by decide +kernel⟩
                  have uh_2400 := h_2400.1
                  have vh_2400 := h_2400.2
                  refine lv_if_eq (tgt := 124) hx hb dX6_advance_114 (by decide +kernel) (fun c_2401 => ?_) (fun c_2401 => ?_)
                  · replace hF := hF.trans (if_pos c_2401)
                    have f_2409 := (hr_2397.resolve_left (fun q => absurd (q.1.symm.trans c_2401) (by decide +kernel))).2
                    have tc_2410 : (x_2393).toInt = 0 := congrArg Int32.toInt c_2401
                    have h_2411 : rg x_2393 0 0 := rg_and h_2400 (rg_of_eq c_2401 (rg_k (0 : Int32) 0 rfl)) (by decide +kernel)
                    have uh_2411 := h_2411.1
                    have vh_2411 := h_2411.2
                    refine lv_aload_n hx hb dX6_advance_124 rfl (lv_at hl 0 rfl) ?_
                    refine lv_aload_n hx hb dX6_advance_125 rfl (lv_at hl 0 rfl) ?_
                    refine pg_f (v := .ref w_1650) (C := RX6) (T := TX6) (N := 6) hx hb hts (tw_i inlX6) hown hK hP hL_this hK_this (by decide +kernel) rfl 0 (by decide +kernel) (hts _ (tw_c tw_165)) (pq_hv rfl hR_w_1650) dX6_advance_126 ?_
                    refine lv_aload_n hx hb dX6_advance_129 rfl (lv_at hl 0 rfl) ?_
                    refine pg_f (v := .int (I_2358 197 this)) (C := RX6) (T := TX6) (N := 6) hx hb hts (tw_i inlX6) hown hK hP hL_this hK_this (by decide +kernel) rfl 5 (by decide +kernel) (hts _ (tw_c tw_662)) rfl dX6_advance_130 ?_
                    refine pl_i hx hb hK hP hL_w_1650 hK_w_1650 hN_w_1650 (rg_in h_2372 (by decide +kernel)) dX6_advance_133 ?_
                    refine lv_tov x_2373 ex_2373.symm ?_
                    refine pk_i (va_runS (As := [.int x_2373]) (rest := [.ref this]) ⟨hx, hb, hml, hown, hts⟩ (s_X6_signOf l D t σ I_2358 J ri rj rq H.size tg hSH hG.1 x_2373) (va_cwS 1 hts (tw_S tw_734 tw_735 tw_153 tw_736) rfl rfl rfl cd_yX6_signOf_1 ⟨Nat.le_of_ble_eq_true rfl, Nat.le_of_ble_eq_true rfl⟩) ⟨pq_blind, pq_pre hK hN hP hD⟩ rfl rfl hl.1 rfl (lv_room (Nat.le_of_ble_eq_true rfl)) dX6_advance_134 ⟨Nat.le_of_ble_eq_true rfl, Nat.le_of_ble_eq_true rfl⟩) hD hS hA (fun x_2412 σ1 μ1 H locs hw_2413 hP hD hS => ?_)
                    obtain ⟨hu_2414, hfn_2417, hr_2416⟩ := hw_2413
                    obtain ⟨hu_2414a, hu_2414b⟩ := Prod.mk.inj hu_2414
                    rw [hu_2414a, hu_2414b] at hP hD
                    replace hF := hF.trans (ap_n hfn_2417.symm)
                    refine pp_i (v := x_2412) (ty := .int) (C := RX6) (T := TX6) (N := 6) hx hb hts (tw_i inlX6) tyX6 tyX6_ok nmX6 hown hK hP hD hS hL_this hK_this (by decide +kernel) rfl 2 194 (by decide +kernel) (hts _ (tw_c tw_668)) rfl (tyX6_ok 2 (by decide +kernel)) rfl rfl (Nat.le_of_ble_eq_true rfl) (ps_194 _ _ _ _ _) dX6_advance_137 (fun I_2419 H locs eI_2419 hP hD hS => ?_)
                    replace hFr := fr_I (f := 194) hFr hO_this (by decide +kernel) eI_2419
                    replace hF := hF.trans (ap_n (vI_st (f := 194) hO_this (by decide +kernel) eI_2419))
                    have hG := GX.wI hG 194 rfl eI_2419 (rg_w hr_2416 (by decide +kernel)) (by decide +kernel)
                    have tt_2420 : (I_2419 197 this).toInt = (I_2358 197 this).toInt := by rw [eI_2419, pq_uf _ _ _ (by decide +kernel)]
                    have tt_2421 : (I_2419 193 this).toInt = (I_2358 193 this).toInt := by rw [eI_2419, pq_uf _ _ _ (by decide +kernel)]
                    have tt_2422 : (I_2419 194 this).toInt = (x_2412).toInt := by rw [eI_2419, pq_us]
                    refine lv_aload_n hx hb dX6_advance_140 rfl (lv_at hl 0 rfl) ?_
                    refine lv_dup hx hb dX6_advance_141 rfl ?_
                    refine pg_f (v := .int (I_2419 197 this)) (C := RX6) (T := TX6) (N := 6) hx hb hts (tw_i inlX6) hown hK hP hL_this hK_this (by decide +kernel) rfl 5 (by decide +kernel) (hts _ (tw_c tw_662)) rfl dX6_advance_142 ?_
                    have h_2423 : rg (I_2419 197 this) 0 299 := (by rw [eI_2419, pq_uf _ _ _ (by decide +kernel)]; exact h_2372)
                    have uh_2423 := h_2423.1
                    have vh_2423 := h_2423.2
                    replace hF := hF.trans (ap_n (vI_e (f := 197) hO_this (by decide +kernel)))
                    refine lv_iconst (v := 1) hx hb dX6_advance_145 (by decide +kernel) ?_
                    refine lv_iadd hx hb dX6_advance_146 ?_
                    refine lv_topi (fun x_2425 ex_2425 => ?_)
                    replace hF := hF.trans (ap_n ex_2425)
                    have h_2426 : rg x_2425 1 300 := rg_of_eq ex_2425 (rg_add h_2423 (rg_k (1 : Int32) 1 rfl) (by decide +kernel))
                    have uh_2426 := h_2426.1
                    have vh_2426 := h_2426.2
                    have tx_2425 : (x_2425).toInt = (I_2419 197 this).toInt + 1 := by rw [ex_2425]; exact i_add_rg (a2 := (I_2419 197 this).toInt) (b2 := 1) rfl rfl h_2423 (rg_k (1 : Int32) 1 rfl) (by decide +kernel)
                    refine pp_i (v := x_2425) (ty := .int) (C := RX6) (T := TX6) (N := 6) hx hb hts (tw_i inlX6) tyX6 tyX6_ok nmX6 hown hK hP hD hS hL_this hK_this (by decide +kernel) rfl 5 197 (by decide +kernel) (hts _ (tw_c tw_662)) rfl (tyX6_ok 5 (by decide +kernel)) rfl rfl (Nat.le_of_ble_eq_true rfl) (ps_197 _ _ _ _ _) dX6_advance_147 (fun I_2427 H locs eI_2427 hP hD hS => ?_)
                    replace hFr := fr_I (f := 197) hFr hO_this (by decide +kernel) eI_2427
                    replace hF := hF.trans (ap_n (vI_st (f := 197) hO_this (by decide +kernel) eI_2427))
                    have hG := GX.wI hG 197 rfl eI_2427 (rg_w h_2426 (by decide +kernel)) (by decide +kernel)
                    have tt_2428 : (I_2427 197 this).toInt = (x_2425).toInt := by rw [eI_2427, pq_us]
                    have tt_2429 : (I_2427 193 this).toInt = (I_2419 193 this).toInt := by rw [eI_2427, pq_uf _ _ _ (by decide +kernel)]
                    have tt_2430 : (I_2427 194 this).toInt = (I_2419 194 this).toInt := by rw [eI_2427, pq_uf _ _ _ (by decide +kernel)]
                    refine lv_aload_n hx hb dX6_advance_150 rfl (lv_at hl 0 rfl) ?_
                    refine pk_v (va_runV (As := []) (rest := []) ⟨hx, hb, hml, hown, hts⟩ (s_X6_takeLonger_x l D t σ I_2427 J ri rj rq H.size tg hSH hG.1 this hL_this hK_this M hL_M hK_M hO_this) (cwV 0 hts (tw_V tw_737 tw_738 tw_739 tw_153 tw_740) rfl rfl rfl cv_yX6_takeLonger_0 ⟨Nat.le_of_ble_eq_true rfl, Nat.le_of_ble_eq_true rfl⟩) ⟨pq_blind, pq_recv hK hP hL_this hK_this (by decide +kernel) rfl, pq_pre hK hN hP hD⟩ rfl rfl hl.1 rfl (lv_room (Nat.le_of_ble_eq_true rfl)) dX6_advance_151 ⟨Nat.le_of_ble_eq_true rfl, Nat.le_of_ble_eq_true rfl⟩) hD hS hA (fun σ1 μ1 H locs hw_2432 hP hD hS => ?_)
                    obtain ⟨I_2433, hu_2434, hg_2435, hp_2437, hfn_2438, hfr_2439⟩ := hw_2432
                    obtain ⟨hu_2434a, hu_2434b⟩ := Prod.mk.inj hu_2434
                    rw [hu_2434a, hu_2434b] at hP hD
                    replace hF := hF.trans (bv_n hfn_2438)
                    replace hFr := fr_tr hFr hfr_2439
                    have tt_2440 := hp_2437
                    have hG := GX.tr hG hg_2435 (by decide +kernel)
                    have tt_2441 : (I_2433 193 this).toInt = (I_2427 193 this).toInt := by rw [hg_2435.2.1 193 (by decide +kernel) (by decide +kernel)]
                    subst hQ
                    exact W.vret hx hb hr (fun t1 ht hW => ⟨⟨(σ, I_2433, J, ri, rj, rq), rfl, ⟨I_2433, rfl, hG, (by omega), (by omega), (hF0.symm.trans hF), hFr⟩, by rw [ht]; exact hP, va_K.moved hW.alike hK, hD⟩, hS.F ht⟩) hS.2.2 dX6_advance_154
                  · replace hF := hF.trans (if_neg c_2401)
                    obtain ⟨f_2442, f_2443⟩ := (hr_2397.resolve_right (fun q => c_2401 q.1)).2
                    have uf_2442 := f_2442.1
                    have vf_2442 := f_2442.2
                    have tc_2444 : (x_2393).toInt ≠ 0 := fun q => c_2401 (Int32.toInt_inj.mp q)
                    have h_2445 : rg x_2393 1 1 := rg_ne c_2401 h_2400 0 rfl (by decide +kernel)
                    have uh_2445 := h_2445.1
                    have vh_2445 := h_2445.2
                    refine lv_aload_n hx hb dX6_advance_117 rfl (lv_at hl 0 rfl) ?_
                    have tt_2446 := congrArg Int32.toInt ex_1651
                    have tt_2447 := congrArg Int32.toInt ex_2373
                    refine pk_v (va_runV (As := []) (rest := []) ⟨hx, hb, hml, hown, hts⟩ (s_X6_takeWord l D t σ I_2358 J ri rj rq H.size aK aV vF tg hSH hG.1 this hL_this hK_this w_1650 hR_w_1650 hL_w_1650 hK_w_1650 hN_w_1650 hT_w_1650 M hL_M hK_M hO_this (by omega) (by omega)) (cwV 0 hts (tw_V tw_681 tw_682 tw_683 tw_153 tw_684) rfl rfl rfl cv_yX6_takeWord_0 ⟨Nat.le_of_ble_eq_true rfl, Nat.le_of_ble_eq_true rfl⟩) ⟨pq_blindS, pq_recv hK hP hL_this hK_this (by decide +kernel) rfl, pq_preS hK hN hP hD hS hA hW0⟩ rfl rfl hl.1 rfl (lv_room (Nat.le_of_ble_eq_true rfl)) dX6_advance_118 ⟨Nat.le_of_ble_eq_true rfl, Nat.le_of_ble_eq_true rfl⟩) hD hS hA (fun σ1 μ1 H locs hw_2449 hP hD hS => ?_)
                    obtain ⟨I_2450, hu_2451, hg_2452, hp_2454, hfn_2455, hfr_2456⟩ := hw_2449
                    obtain ⟨hu_2451a, hu_2451b⟩ := Prod.mk.inj hu_2451
                    rw [hu_2451a, hu_2451b] at hP hD
                    replace hF := hF.trans (bv_n hfn_2455)
                    replace hFr := fr_tr hFr hfr_2456
                    have tt_2457 := hp_2454
                    have hG := GX.tr hG hg_2452 (by decide +kernel)
                    have tt_2458 : (I_2450 193 this).toInt = (I_2358 193 this).toInt := by rw [hg_2452.2.1 193 (by decide +kernel) (by decide +kernel)]
                    refine lv_goto (tgt := 154) hx hb dX6_advance_121 (by decide +kernel) ?_
                    subst hQ
                    exact W.vret hx hb hr (fun t1 ht hW => ⟨⟨(σ, I_2450, J, ri, rj, rq), rfl, ⟨I_2450, rfl, hG, (by omega), (by omega), (hF0.symm.trans hF), hFr⟩, by rw [ht]; exact hP, va_K.moved hW.alike hK, hD⟩, hS.F ht⟩) hS.2.2 dX6_advance_154
                · replace hF := hF.trans (if_neg c_2382)
                  obtain ⟨f_2459, f_2460⟩ := (hr_2378.resolve_right (fun q => c_2382 q.1)).2
                  have uf_2459 := f_2459.1
                  have vf_2459 := f_2459.2
                  have tc_2461 : (x_2374).toInt ≠ 0 := fun q => c_2382 (Int32.toInt_inj.mp q)
                  have h_2462 : rg x_2374 1 1 := rg_ne c_2382 h_2381 0 rfl (by decide +kernel)
                  have uh_2462 := h_2462.1
                  have vh_2462 := h_2462.2
                  refine lv_aload_n hx hb dX6_advance_95 rfl (lv_at hl 0 rfl) ?_
                  have tt_2463 := congrArg Int32.toInt ex_1651
                  have tt_2464 := congrArg Int32.toInt ex_2373
                  refine pk_v (va_runV (As := []) (rest := []) ⟨hx, hb, hml, hown, hts⟩ (s_X6_takeNumber_x l D t σ I_2358 J ri rj rq H.size tg hSH hG.1 this hL_this hK_this w_1650 hR_w_1650 hL_w_1650 hK_w_1650 hN_w_1650 hT_w_1650 M hL_M hK_M hO_this (by omega) (by omega)) (cwV 0 hts (tw_V tw_672 tw_673 tw_674 tw_153 tw_675) rfl rfl rfl cv_yX6_takeNumber_0 ⟨Nat.le_of_ble_eq_true rfl, Nat.le_of_ble_eq_true rfl⟩) ⟨pq_blind, pq_recv hK hP hL_this hK_this (by decide +kernel) rfl, pq_pre hK hN hP hD⟩ rfl rfl hl.1 rfl (lv_room (Nat.le_of_ble_eq_true rfl)) dX6_advance_96 ⟨Nat.le_of_ble_eq_true rfl, Nat.le_of_ble_eq_true rfl⟩) hD hS hA (fun σ1 μ1 H locs hw_2466 hP hD hS => ?_)
                  obtain ⟨I_2467, hu_2468, hg_2469, hp_2471, hfn_2472, hfr_2473⟩ := hw_2466
                  obtain ⟨hu_2468a, hu_2468b⟩ := Prod.mk.inj hu_2468
                  rw [hu_2468a, hu_2468b] at hP hD
                  replace hF := hF.trans (bv_n hfn_2472)
                  replace hFr := fr_tr hFr hfr_2473
                  have tt_2474 := hp_2471
                  have hG := GX.tr hG hg_2469 (by decide +kernel)
                  have tt_2475 : (I_2467 193 this).toInt = (I_2358 193 this).toInt := by rw [hg_2469.2.1 193 (by decide +kernel) (by decide +kernel)]
                  refine lv_goto (tgt := 154) hx hb dX6_advance_99 (by decide +kernel) ?_
                  subst hQ
                  exact W.vret hx hb hr (fun t1 ht hW => ⟨⟨(σ, I_2467, J, ri, rj, rq), rfl, ⟨I_2467, rfl, hG, (by omega), (by omega), (hF0.symm.trans hF), hFr⟩, by rw [ht]; exact hP, va_K.moved hW.alike hK, hD⟩, hS.F ht⟩) hS.2.2 dX6_advance_154
              · replace hF := hF.trans (if_neg c_2366)
                have tc_2476 : (I_2358 193 this).toInt ≤ (I_2358 197 this).toInt := Int32.le_iff_toInt_le.mp (nlt c_2366)
                have h_2477 : rg (I_2358 197 this) 1 300 := rg_le2 (nlt c_2366) h_2364 h_2362 (by decide +kernel)
                have uh_2477 := h_2477.1
                have vh_2477 := h_2477.2
                refine lv_aload_n hx hb dX6_advance_71 rfl (lv_at hl 0 rfl) ?_
                refine lv_bipush (v := 33) hx hb dX6_advance_72 (by decide +kernel) ?_
                refine pp_i (v := 33) (ty := .int) (C := RX6) (T := TX6) (N := 6) hx hb hts (tw_i inlX6) tyX6 tyX6_ok nmX6 hown hK hP hD hS hL_this hK_this (by decide +kernel) rfl 2 194 (by decide +kernel) (hts _ (tw_c tw_668)) rfl (tyX6_ok 2 (by decide +kernel)) rfl rfl (Nat.le_of_ble_eq_true rfl) (ps_194 _ _ _ _ _) dX6_advance_74 (fun I_2478 H locs eI_2478 hP hD hS => ?_)
                replace hFr := fr_I (f := 194) hFr hO_this (by decide +kernel) eI_2478
                replace hF := hF.trans (ap_n (vI_st (f := 194) hO_this (by decide +kernel) eI_2478))
                have hG := GX.wI hG 194 rfl eI_2478 (rg_w (rg_k (33 : Int32) 33 rfl) (by decide +kernel)) (by decide +kernel)
                have tt_2479 : (I_2478 197 this).toInt = (I_2358 197 this).toInt := by rw [eI_2478, pq_uf _ _ _ (by decide +kernel)]
                have tt_2480 : (I_2478 193 this).toInt = (I_2358 193 this).toInt := by rw [eI_2478, pq_uf _ _ _ (by decide +kernel)]
                have tt_2481 : (I_2478 194 this).toInt = 33 := by rw [eI_2478, pq_us]; rfl
                refine lv_goto (tgt := 154) hx hb dX6_advance_77 (by decide +kernel) ?_
                subst hQ
                exact W.vret hx hb hr (fun t1 ht hW => ⟨⟨(σ, I_2478, J, ri, rj, rq), rfl, ⟨I_2478, rfl, hG, (by omega), (by omega), (hF0.symm.trans hF), hFr⟩, by rw [ht]; exact hP, va_K.moved hW.alike hK, hD⟩, hS.F ht⟩) hS.2.2 dX6_advance_154
            refine lv_icmp_ge (tgt := 52) hx hb dX6_advance_8 (by decide +kernel) (fun c_2482 => ?_) (fun c_2482 => ?_)
            · replace hF := hF.trans (if_pos c_2482)
              have tc_2487 : (I_2077 193 this).toInt ≤ (I_2077 197 this).toInt := Int32.le_iff_toInt_le.mp c_2482
              have h_2488 : rg (I_2077 197 this) 1 300 := rg_le2 c_2482 h_2223 h_2221 (by decide +kernel)
              have uh_2488 := h_2488.1
              have vh_2488 := h_2488.2
              exact K_2357 _ _ _ hF hFr hG hP hD hS (lv_sub hl [0] rfl)
            · replace hF := hF.trans (if_neg c_2482)
              have tc_2489 : (I_2077 197 this).toInt < (I_2077 193 this).toInt := Int32.lt_iff_toInt_lt.mp (nle c_2482)
              have h_2490 : rg (I_2077 197 this) 0 299 := rg_lt1 (nle c_2482) h_2221 h_2223 (by decide +kernel)
              have uh_2490 := h_2490.1
              have vh_2490 := h_2490.2
              refine lv_aload_n hx hb dX6_advance_11 rfl (lv_at hl 0 rfl) ?_
              refine pg_f (v := .ref w_1650) (C := RX6) (T := TX6) (N := 6) hx hb hts (tw_i inlX6) hown hK hP hL_this hK_this (by decide +kernel) rfl 0 (by decide +kernel) (hts _ (tw_c tw_165)) (pq_hv rfl hR_w_1650) dX6_advance_12 ?_
              refine lv_aload_n hx hb dX6_advance_15 rfl (lv_at hl 0 rfl) ?_
              refine pg_f (v := .int (I_2077 197 this)) (C := RX6) (T := TX6) (N := 6) hx hb hts (tw_i inlX6) hown hK hP hL_this hK_this (by decide +kernel) rfl 5 (by decide +kernel) (hts _ (tw_c tw_662)) rfl dX6_advance_16 ?_
              refine pl_i hx hb hK hP hL_w_1650 hK_w_1650 hN_w_1650 (rg_in h_2490 (by decide +kernel)) dX6_advance_19 ?_
              refine lv_topi (fun x_2491 ex_2491 => ?_)
              replace hF := hF.trans (ap_n (vR_r hO_w_1650 (by decide +kernel) ex_2491))
              have ex_2491 : x_2491 = ri w_1650 ((I_2077 197 this)).toNatClampNeg := ex_2491
              refine lv_bipush (v := 32) hx hb dX6_advance_20 (by decide +kernel) ?_
              refine lv_icmp_eq (tgt := 39) hx hb dX6_advance_22 (by decide +kernel) (fun c_2492 => ?_) (fun c_2492 => ?_)
              · replace hF := hF.trans (if_pos c_2492)
                have tc_2496 : (x_2491).toInt = 32 := congrArg Int32.toInt c_2492
                have h_2497 : rg x_2491 32 32 := rg_and (rg_full _) (rg_of_eq c_2492 (rg_k (32 : Int32) 32 rfl)) (by decide +kernel)
                have uh_2497 := h_2497.1
                have vh_2497 := h_2497.2
                refine lv_aload_n hx hb dX6_advance_39 rfl (lv_at hl 0 rfl) ?_
                refine lv_dup hx hb dX6_advance_40 rfl ?_
                refine pg_f (v := .int (I_2077 197 this)) (C := RX6) (T := TX6) (N := 6) hx hb hts (tw_i inlX6) hown hK hP hL_this hK_this (by decide +kernel) rfl 5 (by decide +kernel) (hts _ (tw_c tw_662)) rfl dX6_advance_41 ?_
                refine lv_iconst (v := 1) hx hb dX6_advance_44 (by decide +kernel) ?_
                refine lv_iadd hx hb dX6_advance_45 ?_
                refine lv_topi (fun x_2498 ex_2498 => ?_)
                replace hF := hF.trans (ap_n ex_2498)
                have h_2499 : rg x_2498 1 300 := rg_of_eq ex_2498 (rg_add h_2490 (rg_k (1 : Int32) 1 rfl) (by decide +kernel))
                have uh_2499 := h_2499.1
                have vh_2499 := h_2499.2
                have tx_2498 : (x_2498).toInt = (I_2077 197 this).toInt + 1 := by rw [ex_2498]; exact i_add_rg (a2 := (I_2077 197 this).toInt) (b2 := 1) rfl rfl h_2490 (rg_k (1 : Int32) 1 rfl) (by decide +kernel)
                refine pp_i (v := x_2498) (ty := .int) (C := RX6) (T := TX6) (N := 6) hx hb hts (tw_i inlX6) tyX6 tyX6_ok nmX6 hown hK hP hD hS hL_this hK_this (by decide +kernel) rfl 5 197 (by decide +kernel) (hts _ (tw_c tw_662)) rfl (tyX6_ok 5 (by decide +kernel)) rfl rfl (Nat.le_of_ble_eq_true rfl) (ps_197 _ _ _ _ _) dX6_advance_46 (fun I_2500 H locs eI_2500 hP hD hS => ?_)
                replace hFr := fr_I (f := 197) hFr hO_this (by decide +kernel) eI_2500
                replace hF := hF.trans (ap_n (vI_st (f := 197) hO_this (by decide +kernel) eI_2500))
                have hG := GX.wI hG 197 rfl eI_2500 (rg_w h_2499 (by decide +kernel)) (by decide +kernel)
                have tt_2501 : (I_2500 197 this).toInt = (x_2498).toInt := by rw [eI_2500, pq_us]
                have tt_2502 : (I_2500 193 this).toInt = (I_2077 193 this).toInt := by rw [eI_2500, pq_uf _ _ _ (by decide +kernel)]
                have tt_2503 : (I_2500 194 this).toInt = (I_2077 194 this).toInt := by rw [eI_2500, pq_uf _ _ _ (by decide +kernel)]
                refine lv_goto (tgt := 0) hx hb dX6_advance_49 (by decide +kernel) ?_
                exact ih_2218 I_2500 _ _ _ (by omega) (ms_fu_iadd hm_2215 (by rw [eI_2500]; exact pq_us _ _ _ _) ex_2498 rfl (kk := 1) rfl (by decide +kernel) h_2490 (by decide +kernel) (by decide +kernel)) hF hFr hG hP hD hS (lv_sub hl [0] rfl)
              · replace hF := hF.trans (if_neg c_2492)
                have tc_2504 : (x_2491).toInt ≠ 32 := fun q => c_2492 (Int32.toInt_inj.mp q)
                refine lv_aload_n hx hb dX6_advance_25 rfl (lv_at hl 0 rfl) ?_
                refine pg_f (v := .ref w_1650) (C := RX6) (T := TX6) (N := 6) hx hb hts (tw_i inlX6) hown hK hP hL_this hK_this (by decide +kernel) rfl 0 (by decide +kernel) (hts _ (tw_c tw_165)) (pq_hv rfl hR_w_1650) dX6_advance_26 ?_
                refine lv_aload_n hx hb dX6_advance_29 rfl (lv_at hl 0 rfl) ?_
                refine pg_f (v := .int (I_2077 197 this)) (C := RX6) (T := TX6) (N := 6) hx hb hts (tw_i inlX6) hown hK hP hL_this hK_this (by decide +kernel) rfl 5 (by decide +kernel) (hts _ (tw_c tw_662)) rfl dX6_advance_30 ?_
                refine pl_i hx hb hK hP hL_w_1650 hK_w_1650 hN_w_1650 (rg_in h_2490 (by decide +kernel)) dX6_advance_33 ?_
                refine lv_tov x_2491 ex_2491.symm ?_
                refine lv_bipush (v := 10) hx hb dX6_advance_34 (by decide +kernel) ?_
                refine lv_icmp_ne (tgt := 52) hx hb dX6_advance_36 (by decide +kernel) (fun c_2505 => ?_) (fun c_2505 => ?_)
                · replace hF := hF.trans (if_neg c_2505)
                  have tc_2509 : (x_2491).toInt ≠ 10 := fun q => c_2505 (Int32.toInt_inj.mp q)
                  exact K_2357 _ _ _ hF hFr hG hP hD hS (lv_sub hl [0] rfl)
                · replace hF := hF.trans (if_pos c_2505)
                  have tc_2510 : (x_2491).toInt = 10 := congrArg Int32.toInt c_2505
                  have h_2511 : rg x_2491 10 10 := rg_and (rg_full _) (rg_of_eq c_2505 (rg_k (10 : Int32) 10 rfl)) (by decide +kernel)
                  have uh_2511 := h_2511.1
                  have vh_2511 := h_2511.2
                  refine lv_aload_n hx hb dX6_advance_39 rfl (lv_at hl 0 rfl) ?_
                  refine lv_dup hx hb dX6_advance_40 rfl ?_
                  refine pg_f (v := .int (I_2077 197 this)) (C := RX6) (T := TX6) (N := 6) hx hb hts (tw_i inlX6) hown hK hP hL_this hK_this (by decide +kernel) rfl 5 (by decide +kernel) (hts _ (tw_c tw_662)) rfl dX6_advance_41 ?_
                  refine lv_iconst (v := 1) hx hb dX6_advance_44 (by decide +kernel) ?_
                  refine lv_iadd hx hb dX6_advance_45 ?_
                  refine lv_topi (fun x_2512 ex_2512 => ?_)
                  replace hF := hF.trans (ap_n ex_2512)
                  have h_2513 : rg x_2512 1 300 := rg_of_eq ex_2512 (rg_add h_2490 (rg_k (1 : Int32) 1 rfl) (by decide +kernel))
                  have uh_2513 := h_2513.1
                  have vh_2513 := h_2513.2
                  have tx_2512 : (x_2512).toInt = (I_2077 197 this).toInt + 1 := by rw [ex_2512]; exact i_add_rg (a2 := (I_2077 197 this).toInt) (b2 := 1) rfl rfl h_2490 (rg_k (1 : Int32) 1 rfl) (by decide +kernel)
                  refine pp_i (v := x_2512) (ty := .int) (C := RX6) (T := TX6) (N := 6) hx hb hts (tw_i inlX6) tyX6 tyX6_ok nmX6 hown hK hP hD hS hL_this hK_this (by decide +kernel) rfl 5 197 (by decide +kernel) (hts _ (tw_c tw_662)) rfl (tyX6_ok 5 (by decide +kernel)) rfl rfl (Nat.le_of_ble_eq_true rfl) (ps_197 _ _ _ _ _) dX6_advance_46 (fun I_2514 H locs eI_2514 hP hD hS => ?_)
                  replace hFr := fr_I (f := 197) hFr hO_this (by decide +kernel) eI_2514
                  replace hF := hF.trans (ap_n (vI_st (f := 197) hO_this (by decide +kernel) eI_2514))
                  have hG := GX.wI hG 197 rfl eI_2514 (rg_w h_2513 (by decide +kernel)) (by decide +kernel)
                  have tt_2515 : (I_2514 197 this).toInt = (x_2512).toInt := by rw [eI_2514, pq_us]
                  have tt_2516 : (I_2514 193 this).toInt = (I_2077 193 this).toInt := by rw [eI_2514, pq_uf _ _ _ (by decide +kernel)]
                  have tt_2517 : (I_2514 194 this).toInt = (I_2077 194 this).toInt := by rw [eI_2514, pq_uf _ _ _ (by decide +kernel)]
                  refine lv_goto (tgt := 0) hx hb dX6_advance_49 (by decide +kernel) ?_
                  exact ih_2218 I_2514 _ _ _ (by omega) (ms_fu_iadd hm_2215 (by rw [eI_2514]; exact pq_us _ _ _ _) ex_2512 rfl (kk := 1) rfl (by decide +kernel) h_2490 (by decide +kernel) (by decide +kernel)) hF hFr hG hP hD hS (lv_sub hl [0] rfl)
        replace hF := hF.trans (ap_n (vI_e (f := 197) hO_this (by decide +kernel)))
        exact L_2217 _ I_1660 _ _ _ (by omega) (Nat.lt_succ_self _) hF hFr hG hP hD hS (lv_sub hl [0] rfl)
      · replace hF := hF.trans (if_neg c_1652)
        have tc_2519 : (x_1651).toInt ≠ 32 := fun q => c_1652 (Int32.toInt_inj.mp q)
        refine lv_aload_n hx hb dX6_advance_25 rfl (lv_at hl 0 rfl) ?_
        refine pg_f (v := .ref w_1650) (C := RX6) (T := TX6) (N := 6) hx hb hts (tw_i inlX6) hown hK hP hL_this hK_this (by decide +kernel) rfl 0 (by decide +kernel) (hts _ (tw_c tw_165)) (pq_hv rfl hR_w_1650) dX6_advance_26 ?_
        refine lv_aload_n hx hb dX6_advance_29 rfl (lv_at hl 0 rfl) ?_
        refine pg_f (v := .int (I 197 this)) (C := RX6) (T := TX6) (N := 6) hx hb hts (tw_i inlX6) hown hK hP hL_this hK_this (by decide +kernel) rfl 5 (by decide +kernel) (hts _ (tw_c tw_662)) rfl dX6_advance_30 ?_
        refine pl_i hx hb hK hP hL_w_1650 hK_w_1650 hN_w_1650 (rg_in h_1648 (by decide +kernel)) dX6_advance_33 ?_
        refine lv_tov x_1651 ex_1651.symm ?_
        refine lv_bipush (v := 10) hx hb dX6_advance_34 (by decide +kernel) ?_
        refine lv_icmp_ne (tgt := 52) hx hb dX6_advance_36 (by decide +kernel) (fun c_2520 => ?_) (fun c_2520 => ?_)
        · replace hF := hF.trans (if_neg c_2520)
          have tc_2524 : (x_1651).toInt ≠ 10 := fun q => c_2520 (Int32.toInt_inj.mp q)
          exact K_1517 _ _ _ hF hFr hG hP hD hS (lv_sub hl [0] rfl)
        · replace hF := hF.trans (if_pos c_2520)
          have tc_2525 : (x_1651).toInt = 10 := congrArg Int32.toInt c_2520
          have h_2526 : rg x_1651 10 10 := rg_and (rg_full _) (rg_of_eq c_2520 (rg_k (10 : Int32) 10 rfl)) (by decide +kernel)
          have uh_2526 := h_2526.1
          have vh_2526 := h_2526.2
          refine lv_aload_n hx hb dX6_advance_39 rfl (lv_at hl 0 rfl) ?_
          refine lv_dup hx hb dX6_advance_40 rfl ?_
          refine pg_f (v := .int (I 197 this)) (C := RX6) (T := TX6) (N := 6) hx hb hts (tw_i inlX6) hown hK hP hL_this hK_this (by decide +kernel) rfl 5 (by decide +kernel) (hts _ (tw_c tw_662)) rfl dX6_advance_41 ?_
          refine lv_iconst (v := 1) hx hb dX6_advance_44 (by decide +kernel) ?_
          refine lv_iadd hx hb dX6_advance_45 ?_
          refine lv_topi (fun x_2527 ex_2527 => ?_)
          replace hF := hF.trans (ap_n ex_2527)
          have h_2528 : rg x_2527 1 300 := rg_of_eq ex_2527 (rg_add h_1648 (rg_k (1 : Int32) 1 rfl) (by decide +kernel))
          have uh_2528 := h_2528.1
          have vh_2528 := h_2528.2
          have tx_2527 : (x_2527).toInt = (I 197 this).toInt + 1 := by rw [ex_2527]; exact i_add_rg (a2 := (I 197 this).toInt) (b2 := 1) rfl rfl h_1648 (rg_k (1 : Int32) 1 rfl) (by decide +kernel)
          refine pp_i (v := x_2527) (ty := .int) (C := RX6) (T := TX6) (N := 6) hx hb hts (tw_i inlX6) tyX6 tyX6_ok nmX6 hown hK hP hD hS hL_this hK_this (by decide +kernel) rfl 5 197 (by decide +kernel) (hts _ (tw_c tw_662)) rfl (tyX6_ok 5 (by decide +kernel)) rfl rfl (Nat.le_of_ble_eq_true rfl) (ps_197 _ _ _ _ _) dX6_advance_46 (fun I_2529 H locs eI_2529 hP hD hS => ?_)
          replace hFr := fr_I (f := 197) hFr hO_this (by decide +kernel) eI_2529
          replace hF := hF.trans (ap_n (vI_st (f := 197) hO_this (by decide +kernel) eI_2529))
          have hG := GX.wI hG 197 rfl eI_2529 (rg_w h_2528 (by decide +kernel)) (by decide +kernel)
          have tt_2530 : (I_2529 197 this).toInt = (x_2527).toInt := by rw [eI_2529, pq_us]
          have tt_2531 : (I_2529 193 this).toInt = (I 193 this).toInt := by rw [eI_2529, pq_uf _ _ _ (by decide +kernel)]
          have tt_2532 : (I_2529 194 this).toInt = (I 194 this).toInt := by rw [eI_2529, pq_uf _ _ _ (by decide +kernel)]
          refine lv_goto (tgt := 0) hx hb dX6_advance_49 (by decide +kernel) ?_
          have L_3086 : ∀ (n_3085 : Nat) (I_2946 : Nat → Nat → Int32) (H : Heap) (locs : List Loc) (ls : Array Slot), ((I 197 this).toInt ≤ (I_2946 197 this).toInt ∧ (I_2946 193 this).toInt = (I 193 this).toInt) → (300 - (I_2946 197 this).toInt).toNat < n_3085 → F = g_X6_advance_L0_2 (vJ 4 σ M J) (vR 4 σ M ri) (vL 4 σ M rj) (vQ 4 σ M rq) n_3085 (vI 4 σ M I_2946) → FR 4 tg σ M (I, J, ri, rj, rq) (I_2946, J, ri, rj, rq) → GX [197, 194] tg σ I ri rj I_2946 ri rj rq → va_P D vwCl (pq_P t σ (I_2946, J, ri, rj, rq)) H → va_D A (pq_P t σ (I_2946, J, ri, rj, rq)) → va_S A s.heap H locs → lv_has ls 1 [(0, .ref this)] → W p l e ({ frames := 5, cells := 0, slots := 0, locals := 109 } : Room) s m (List.toArray ([.ref this] : List Value)) below meth c H locs 0 0 Q (F0 m 0 ls []) := by
            intro n_3085
            induction n_3085 with
            | zero => intro I_2946 H locs ls hrel_3089 hm_3084 hF hFr hG hP hD hS hl; exact absurd hm_3084 (Nat.not_lt_zero _)
            | succ n_3085 ih_3087 =>
              intro I_2946 H locs ls hrel_3089 hm_3084 hF hFr hG hP hD hS hl
              replace hF := hF.trans g_X6_advance_L0_2_e
              refine lv_aload_n hx hb dX6_advance_0 rfl (lv_at hl 0 rfl) ?_
              refine pg_f (v := .int (I_2946 197 this)) (C := RX6) (T := TX6) (N := 6) hx hb hts (tw_i inlX6) hown hK hP hL_this hK_this (by decide +kernel) rfl 5 (by decide +kernel) (hts _ (tw_c tw_662)) rfl dX6_advance_1 ?_
              have h_3090 : rg (I_2946 197 this) 0 300 := GX.rI hG 197 rfl
              have uh_3090 := h_3090.1
              have vh_3090 := h_3090.2
              replace hF := hF.trans (ap_n (vI_e (f := 197) hO_this (by decide +kernel)))
              refine lv_aload_n hx hb dX6_advance_4 rfl (lv_at hl 0 rfl) ?_
              refine pg_f (v := .int (I_2946 193 this)) (C := RX6) (T := TX6) (N := 6) hx hb hts (tw_i inlX6) hown hK hP hL_this hK_this (by decide +kernel) rfl 1 (by decide +kernel) (hts _ (tw_c tw_626)) rfl dX6_advance_5 ?_
              have h_3092 : rg (I_2946 193 this) 1 300 := (by rw [hG.2.1 193 (by decide +kernel) (by decide +kernel)]; exact h_1649)
              have uh_3092 := h_3092.1
              have vh_3092 := h_3092.2
              replace hF := hF.trans (ap_n (vI_e (f := 193) hO_this (by decide +kernel)))
              have K_3226 : ∀  (H : Heap) (locs : List Loc) (ls : Array Slot), F = g_X6_advance_K52_3 (vJ 4 σ M J) (vR 4 σ M ri) (vL 4 σ M rj) (vQ 4 σ M rq) (vI 4 σ M I_2946) (I_2946 197 this)  → FR 4 tg σ M (I, J, ri, rj, rq) (I_2946, J, ri, rj, rq) → GX [197, 194] tg σ I ri rj I_2946 ri rj rq → va_P D vwCl (pq_P t σ (I_2946, J, ri, rj, rq)) H → va_D A (pq_P t σ (I_2946, J, ri, rj, rq)) → va_S A s.heap H locs → lv_has ls 1 [(0, .ref this)] → W p l e ({ frames := 5, cells := 0, slots := 0, locals := 109 } : Room) s m (List.toArray ([.ref this] : List Value)) below meth c H locs 0 0 Q (F0 m 52 ls []) := by
                intro H locs ls hF hFr hG hP hD hS hl
                replace hF := hF.trans g_X6_advance_K52_3_e
                refine lv_aload_n hx hb dX6_advance_52 rfl (lv_at hl 0 rfl) ?_
                refine lv_aload_n hx hb dX6_advance_53 rfl (lv_at hl 0 rfl) ?_
                refine pg_f (v := .int (I_2946 197 this)) (C := RX6) (T := TX6) (N := 6) hx hb hts (tw_i inlX6) hown hK hP hL_this hK_this (by decide +kernel) rfl 5 (by decide +kernel) (hts _ (tw_c tw_662)) rfl dX6_advance_54 ?_
                refine pp_i (v := (I_2946 197 this)) (ty := .int) (C := RX6) (T := TX6) (N := 6) hx hb hts (tw_i inlX6) tyX6 tyX6_ok nmX6 hown hK hP hD hS hL_this hK_this (by decide +kernel) rfl 3 195 (by decide +kernel) (hts _ (tw_c tw_667)) rfl (tyX6_ok 3 (by decide +kernel)) rfl rfl (Nat.le_of_ble_eq_true rfl) (ps_195 _ _ _ _ _) dX6_advance_57 (fun I_3227 H locs eI_3227 hP hD hS => ?_)
                replace hFr := fr_I (f := 195) hFr hO_this (by decide +kernel) eI_3227
                replace hF := hF.trans (ap_n (vI_st (f := 195) hO_this (by decide +kernel) eI_3227))
                have hG := GX.wI hG 195 rfl eI_3227 (rg_w h_3090 (by decide +kernel)) (by decide +kernel)
                have tt_3228 : (I_3227 197 this).toInt = (I_2946 197 this).toInt := by rw [eI_3227, pq_uf _ _ _ (by decide +kernel)]
                have tt_3229 : (I_3227 193 this).toInt = (I_2946 193 this).toInt := by rw [eI_3227, pq_uf _ _ _ (by decide +kernel)]
                have tt_3230 : (I_3227 194 this).toInt = (I_2946 194 this).toInt := by rw [eI_3227, pq_uf _ _ _ (by decide +kernel)]
                refine lv_aload_n hx hb dX6_advance_60 rfl (lv_at hl 0 rfl) ?_
                refine pg_f (v := .int (I_3227 197 this)) (C := RX6) (T := TX6) (N := 6) hx hb hts (tw_i inlX6) hown hK hP hL_this hK_this (by decide +kernel) rfl 5 (by decide +kernel) (hts _ (tw_c tw_662)) rfl dX6_advance_61 ?_
                have h_3231 : rg (I_3227 197 this) 0 300 := GX.rI hG 197 rfl
                have uh_3231 := h_3231.1
                have vh_3231 := h_3231.2
                replace hF := hF.trans (ap_n (vI_e (f := 197) hO_this (by decide +kernel)))
                refine lv_aload_n hx hb dX6_advance_64 rfl (lv_at hl 0 rfl) ?_
                refine pg_f (v := .int (I_3227 193 this)) (C := RX6) (T := TX6) (N := 6) hx hb hts (tw_i inlX6) hown hK hP hL_this hK_this (by decide +kernel) rfl 1 (by decide +kernel) (hts _ (tw_c tw_626)) rfl dX6_advance_65 ?_
                have h_3233 : rg (I_3227 193 this) 1 300 := (by rw [hG.2.1 193 (by decide +kernel) (by decide +kernel)]; exact h_1649)
                have uh_3233 := h_3233.1
                have vh_3233 := h_3233.2
                replace hF := hF.trans (ap_n (vI_e (f := 193) hO_this (by decide +kernel)))
                refine lv_icmp_lt (tgt := 80) hx hb dX6_advance_68 (by decide +kernel) (fun c_3235 => ?_) (fun c_3235 => ?_)
                · replace hF := hF.trans (if_pos c_3235)
                  have tc_3240 : (I_3227 197 this).toInt < (I_3227 193 this).toInt := Int32.lt_iff_toInt_lt.mp c_3235
                  have h_3241 : rg (I_3227 197 this) 0 299 := rg_lt1 c_3235 h_3231 h_3233 (by decide +kernel)
                  have uh_3241 := h_3241.1
                  have vh_3241 := h_3241.2
                  refine lv_aload_n hx hb dX6_advance_80 rfl (lv_at hl 0 rfl) ?_
                  refine pg_f (v := .ref w_1650) (C := RX6) (T := TX6) (N := 6) hx hb hts (tw_i inlX6) hown hK hP hL_this hK_this (by decide +kernel) rfl 0 (by decide +kernel) (hts _ (tw_c tw_165)) (pq_hv rfl hR_w_1650) dX6_advance_81 ?_
                  refine lv_aload_n hx hb dX6_advance_84 rfl (lv_at hl 0 rfl) ?_
                  refine pg_f (v := .int (I_3227 197 this)) (C := RX6) (T := TX6) (N := 6) hx hb hts (tw_i inlX6) hown hK hP hL_this hK_this (by decide +kernel) rfl 5 (by decide +kernel) (hts _ (tw_c tw_662)) rfl dX6_advance_85 ?_
                  refine pl_i hx hb hK hP hL_w_1650 hK_w_1650 hN_w_1650 (rg_in h_3241 (by decide +kernel)) dX6_advance_88 ?_
                  refine lv_topi (fun x_3242 ex_3242 => ?_)
                  replace hF := hF.trans (ap_n (vR_r hO_w_1650 (by decide +kernel) ex_3242))
                  have ex_3242 : x_3242 = ri w_1650 ((I_3227 197 this)).toNatClampNeg := ex_3242
                  refine pk_i (va_runS (As := [.int x_3242]) (rest := []) ⟨hx, hb, hml, hown, hts⟩ (s_X6_isDigit_x l D t σ I_3227 J ri rj rq H.size tg hSH hG.1 x_3242) (va_cwS 1 hts (tw_S tw_669 tw_670 tw_153 tw_671) rfl rfl rfl cd_yX6_isDigit_1 ⟨Nat.le_of_ble_eq_true rfl, Nat.le_of_ble_eq_true rfl⟩) ⟨pq_blind, pq_pre hK hN hP hD⟩ rfl rfl hl.1 rfl (lv_room (Nat.le_of_ble_eq_true rfl)) dX6_advance_89 ⟨Nat.le_of_ble_eq_true rfl, Nat.le_of_ble_eq_true rfl⟩) hD hS hA (fun x_3243 σ1 μ1 H locs hw_3244 hP hD hS => ?_)
                  obtain ⟨hu_3245, hfn_3248, hr_3247⟩ := hw_3244
                  obtain ⟨hu_3245a, hu_3245b⟩ := Prod.mk.inj hu_3245
                  rw [hu_3245a, hu_3245b] at hP hD
                  replace hF := hF.trans (ap_n hfn_3248.symm)
                  have h_3250 : rg x_3243 0 1 := by rcases hr_3247 with ⟨q, -⟩ | ⟨q, -⟩ <;> rw [q] <;> exact ⟨by decide +kernel, by decide +kernel⟩
                  have uh_3250 := h_3250.1
                  have vh_3250 := h_3250.2
                  refine lv_if_eq (tgt := 102) hx hb dX6_advance_92 (by decide +kernel) (fun c_3251 => ?_) (fun c_3251 => ?_)
                  · replace hF := hF.trans (if_pos c_3251)
                    have f_3259 := (hr_3247.resolve_left (fun q => absurd (q.1.symm.trans c_3251) (by decide +kernel))).2
                    have tc_3260 : (x_3243).toInt = 0 := congrArg Int32.toInt c_3251
                    have h_3261 : rg x_3243 0 0 := rg_and h_3250 (rg_of_eq c_3251 (rg_k (0 : Int32) 0 rfl)) (by decide +kernel)
                    have uh_3261 := h_3261.1
                    have vh_3261 := h_3261.2
                    refine lv_aload_n hx hb dX6_advance_102 rfl (lv_at hl 0 rfl) ?_
                    refine pg_f (v := .ref w_1650) (C := RX6) (T := TX6) (N := 6) hx hb hts (tw_i inlX6) hown hK hP hL_this hK_this (by decide +kernel) rfl 0 (by decide +kernel) (hts _ (tw_c tw_165)) (pq_hv rfl hR_w_1650) dX6_advance_103 ?_
                    refine lv_aload_n hx hb dX6_advance_106 rfl (lv_at hl 0 rfl) ?_
                    refine pg_f (v := .int (I_3227 197 this)) (C := RX6) (T := TX6) (N := 6) hx hb hts (tw_i inlX6) hown hK hP hL_this hK_this (by decide +kernel) rfl 5 (by decide +kernel) (hts _ (tw_c tw_662)) rfl dX6_advance_107 ?_
                    refine pl_i hx hb hK hP hL_w_1650 hK_w_1650 hN_w_1650 (rg_in h_3241 (by decide +kernel)) dX6_advance_110 ?_
                    refine lv_tov x_3242 ex_3242.symm ?_
                    refine pk_i (va_runS (As := [.int x_3242]) (rest := []) ⟨hx, hb, hml, hown, hts⟩ (s_X6_isLetter_x l D t σ I_3227 J ri rj rq H.size tg hSH hG.1 x_3242) (va_cwS 1 hts (tw_S tw_678 tw_679 tw_153 tw_680) rfl rfl rfl cd_yX6_isLetter_1 ⟨Nat.le_of_ble_eq_true rfl, Nat.le_of_ble_eq_true rfl⟩) ⟨pq_blind, pq_pre hK hN hP hD⟩ rfl rfl hl.1 rfl (lv_room (Nat.le_of_ble_eq_true rfl)) dX6_advance_111 ⟨Nat.le_of_ble_eq_true rfl, Nat.le_of_ble_eq_true rfl⟩) hD hS hA (fun x_3262 σ1 μ1 H locs hw_3263 hP hD hS => ?_)
                    obtain ⟨hu_3264, hfn_3267, hr_3266⟩ := hw_3263
                    obtain ⟨hu_3264a, hu_3264b⟩ := Prod.mk.inj hu_3264
                    rw [hu_3264a, hu_3264b] at hP hD
                    replace hF := hF.trans (ap_n hfn_3267.symm)
                    have h_3269 : rg x_3262 0 1 := by rcases hr_3266 with ⟨q, -⟩ | ⟨q, -⟩ <;> rw [q] <;> exact ⟨by decide +kernel, by decide +kernel⟩
                    have uh_3269 := h_3269.1
                    have vh_3269 := h_3269.2
                    refine lv_if_eq (tgt := 124) hx hb dX6_advance_114 (by decide +kernel) (fun c_3270 => ?_) (fun c_3270 => ?_)
                    · replace hF := hF.trans (if_pos c_3270)
                      have f_3278 := (hr_3266.resolve_left (fun q => absurd (q.1.symm.trans c_3270) (by decide +kernel))).2
                      have tc_3279 : (x_3262).toInt = 0 := congrArg Int32.toInt c_3270
                      have h_3280 : rg x_3262 0 0 := rg_and h_3269 (rg_of_eq c_3270 (rg_k (0 : Int32) 0 rfl)) (by decide +kernel)
                      have uh_3280 := h_3280.1
                      have vh_3280 := h_3280.2
                      refine lv_aload_n hx hb dX6_advance_124 rfl (lv_at hl 0 rfl) ?_
                      refine lv_aload_n hx hb dX6_advance_125 rfl (lv_at hl 0 rfl) ?_
                      refine pg_f (v := .ref w_1650) (C := RX6) (T := TX6) (N := 6) hx hb hts (tw_i inlX6) hown hK hP hL_this hK_this (by decide +kernel) rfl 0 (by decide +kernel) (hts _ (tw_c tw_165)) (pq_hv rfl hR_w_1650) dX6_advance_126 ?_
                      refine lv_aload_n hx hb dX6_advance_129 rfl (lv_at hl 0 rfl) ?_
                      refine pg_f (v := .int (I_3227 197 this)) (C := RX6) (T := TX6) (N := 6) hx hb hts (tw_i inlX6) hown hK hP hL_this hK_this (by decide +kernel) rfl 5 (by decide +kernel) (hts _ (tw_c tw_662)) rfl dX6_advance_130 ?_
                      refine pl_i hx hb hK hP hL_w_1650 hK_w_1650 hN_w_1650 (rg_in h_3241 (by decide +kernel)) dX6_advance_133 ?_
                      refine lv_tov x_3242 ex_3242.symm ?_
                      refine pk_i (va_runS (As := [.int x_3242]) (rest := [.ref this]) ⟨hx, hb, hml, hown, hts⟩ (s_X6_signOf l D t σ I_3227 J ri rj rq H.size tg hSH hG.1 x_3242) (va_cwS 1 hts (tw_S tw_734 tw_735 tw_153 tw_736) rfl rfl rfl cd_yX6_signOf_1 ⟨Nat.le_of_ble_eq_true rfl, Nat.le_of_ble_eq_true rfl⟩) ⟨pq_blind, pq_pre hK hN hP hD⟩ rfl rfl hl.1 rfl (lv_room (Nat.le_of_ble_eq_true rfl)) dX6_advance_134 ⟨Nat.le_of_ble_eq_true rfl, Nat.le_of_ble_eq_true rfl⟩) hD hS hA (fun x_3281 σ1 μ1 H locs hw_3282 hP hD hS => ?_)
                      obtain ⟨hu_3283, hfn_3286, hr_3285⟩ := hw_3282
                      obtain ⟨hu_3283a, hu_3283b⟩ := Prod.mk.inj hu_3283
                      rw [hu_3283a, hu_3283b] at hP hD
                      replace hF := hF.trans (ap_n hfn_3286.symm)
                      refine pp_i (v := x_3281) (ty := .int) (C := RX6) (T := TX6) (N := 6) hx hb hts (tw_i inlX6) tyX6 tyX6_ok nmX6 hown hK hP hD hS hL_this hK_this (by decide +kernel) rfl 2 194 (by decide +kernel) (hts _ (tw_c tw_668)) rfl (tyX6_ok 2 (by decide +kernel)) rfl rfl (Nat.le_of_ble_eq_true rfl) (ps_194 _ _ _ _ _) dX6_advance_137 (fun I_3288 H locs eI_3288 hP hD hS => ?_)
                      replace hFr := fr_I (f := 194) hFr hO_this (by decide +kernel) eI_3288
                      replace hF := hF.trans (ap_n (vI_st (f := 194) hO_this (by decide +kernel) eI_3288))
                      have hG := GX.wI hG 194 rfl eI_3288 (rg_w hr_3285 (by decide +kernel)) (by decide +kernel)
                      have tt_3289 : (I_3288 197 this).toInt = (I_3227 197 this).toInt := by rw [eI_3288, pq_uf _ _ _ (by decide +kernel)]
                      have tt_3290 : (I_3288 193 this).toInt = (I_3227 193 this).toInt := by rw [eI_3288, pq_uf _ _ _ (by decide +kernel)]
                      have tt_3291 : (I_3288 194 this).toInt = (x_3281).toInt := by rw [eI_3288, pq_us]
                      refine lv_aload_n hx hb dX6_advance_140 rfl (lv_at hl 0 rfl) ?_
                      refine lv_dup hx hb dX6_advance_141 rfl ?_
                      refine pg_f (v := .int (I_3288 197 this)) (C := RX6) (T := TX6) (N := 6) hx hb hts (tw_i inlX6) hown hK hP hL_this hK_this (by decide +kernel) rfl 5 (by decide +kernel) (hts _ (tw_c tw_662)) rfl dX6_advance_142 ?_
                      have h_3292 : rg (I_3288 197 this) 0 299 := (by rw [eI_3288, pq_uf _ _ _ (by decide +kernel)]; exact h_3241)
                      have uh_3292 := h_3292.1
                      have vh_3292 := h_3292.2
                      replace hF := hF.trans (ap_n (vI_e (f := 197) hO_this (by decide +kernel)))
                      refine lv_iconst (v := 1) hx hb dX6_advance_145 (by decide +kernel) ?_
                      refine lv_iadd hx hb dX6_advance_146 ?_
                      refine lv_topi (fun x_3294 ex_3294 => ?_)
                      replace hF := hF.trans (ap_n ex_3294)
                      have h_3295 : rg x_3294 1 300 := rg_of_eq ex_3294 (rg_add h_3292 (rg_k (1 : Int32) 1 rfl) (by decide +kernel))
                      have uh_3295 := h_3295.1
                      have vh_3295 := h_3295.2
                      have tx_3294 : (x_3294).toInt = (I_3288 197 this).toInt + 1 := by rw [ex_3294]; exact i_add_rg (a2 := (I_3288 197 this).toInt) (b2 := 1) rfl rfl h_3292 (rg_k (1 : Int32) 1 rfl) (by decide +kernel)
                      refine pp_i (v := x_3294) (ty := .int) (C := RX6) (T := TX6) (N := 6) hx hb hts (tw_i inlX6) tyX6 tyX6_ok nmX6 hown hK hP hD hS hL_this hK_this (by decide +kernel) rfl 5 197 (by decide +kernel) (hts _ (tw_c tw_662)) rfl (tyX6_ok 5 (by decide +kernel)) rfl rfl (Nat.le_of_ble_eq_true rfl) (ps_197 _ _ _ _ _) dX6_advance_147 (fun I_3296 H locs eI_3296 hP hD hS => ?_)
                      replace hFr := fr_I (f := 197) hFr hO_this (by decide +kernel) eI_3296
                      replace hF := hF.trans (ap_n (vI_st (f := 197) hO_this (by decide +kernel) eI_3296))
                      have hG := GX.wI hG 197 rfl eI_3296 (rg_w h_3295 (by decide +kernel)) (by decide +kernel)
                      have tt_3297 : (I_3296 197 this).toInt = (x_3294).toInt := by rw [eI_3296, pq_us]
                      have tt_3298 : (I_3296 193 this).toInt = (I_3288 193 this).toInt := by rw [eI_3296, pq_uf _ _ _ (by decide +kernel)]
                      have tt_3299 : (I_3296 194 this).toInt = (I_3288 194 this).toInt := by rw [eI_3296, pq_uf _ _ _ (by decide +kernel)]
                      refine lv_aload_n hx hb dX6_advance_150 rfl (lv_at hl 0 rfl) ?_
                      refine pk_v (va_runV (As := []) (rest := []) ⟨hx, hb, hml, hown, hts⟩ (s_X6_takeLonger_x l D t σ I_3296 J ri rj rq H.size tg hSH hG.1 this hL_this hK_this M hL_M hK_M hO_this) (cwV 0 hts (tw_V tw_737 tw_738 tw_739 tw_153 tw_740) rfl rfl rfl cv_yX6_takeLonger_0 ⟨Nat.le_of_ble_eq_true rfl, Nat.le_of_ble_eq_true rfl⟩) ⟨pq_blind, pq_recv hK hP hL_this hK_this (by decide +kernel) rfl, pq_pre hK hN hP hD⟩ rfl rfl hl.1 rfl (lv_room (Nat.le_of_ble_eq_true rfl)) dX6_advance_151 ⟨Nat.le_of_ble_eq_true rfl, Nat.le_of_ble_eq_true rfl⟩) hD hS hA (fun σ1 μ1 H locs hw_3301 hP hD hS => ?_)
                      obtain ⟨I_3302, hu_3303, hg_3304, hp_3306, hfn_3307, hfr_3308⟩ := hw_3301
                      obtain ⟨hu_3303a, hu_3303b⟩ := Prod.mk.inj hu_3303
                      rw [hu_3303a, hu_3303b] at hP hD
                      replace hF := hF.trans (bv_n hfn_3307)
                      replace hFr := fr_tr hFr hfr_3308
                      have tt_3309 := hp_3306
                      have hG := GX.tr hG hg_3304 (by decide +kernel)
                      have tt_3310 : (I_3302 193 this).toInt = (I_3296 193 this).toInt := by rw [hg_3304.2.1 193 (by decide +kernel) (by decide +kernel)]
                      subst hQ
                      exact W.vret hx hb hr (fun t1 ht hW => ⟨⟨(σ, I_3302, J, ri, rj, rq), rfl, ⟨I_3302, rfl, hG, (by omega), (by omega), (hF0.symm.trans hF), hFr⟩, by rw [ht]; exact hP, va_K.moved hW.alike hK, hD⟩, hS.F ht⟩) hS.2.2 dX6_advance_154
                    · replace hF := hF.trans (if_neg c_3270)
                      obtain ⟨f_3311, f_3312⟩ := (hr_3266.resolve_right (fun q => c_3270 q.1)).2
                      have uf_3311 := f_3311.1
                      have vf_3311 := f_3311.2
                      have tc_3313 : (x_3262).toInt ≠ 0 := fun q => c_3270 (Int32.toInt_inj.mp q)
                      have h_3314 : rg x_3262 1 1 := rg_ne c_3270 h_3269 0 rfl (by decide +kernel)
                      have uh_3314 := h_3314.1
                      have vh_3314 := h_3314.2
                      refine lv_aload_n hx hb dX6_advance_117 rfl (lv_at hl 0 rfl) ?_
                      have tt_3315 := congrArg Int32.toInt ex_1651
                      have tt_3316 := congrArg Int32.toInt ex_3242
                      refine pk_v (va_runV (As := []) (rest := []) ⟨hx, hb, hml, hown, hts⟩ (s_X6_takeWord l D t σ I_3227 J ri rj rq H.size aK aV vF tg hSH hG.1 this hL_this hK_this w_1650 hR_w_1650 hL_w_1650 hK_w_1650 hN_w_1650 hT_w_1650 M hL_M hK_M hO_this (by omega) (by omega)) (cwV 0 hts (tw_V tw_681 tw_682 tw_683 tw_153 tw_684) rfl rfl rfl cv_yX6_takeWord_0 ⟨Nat.le_of_ble_eq_true rfl, Nat.le_of_ble_eq_true rfl⟩) ⟨pq_blindS, pq_recv hK hP hL_this hK_this (by decide +kernel) rfl, pq_preS hK hN hP hD hS hA hW0⟩ rfl rfl hl.1 rfl (lv_room (Nat.le_of_ble_eq_true rfl)) dX6_advance_118 ⟨Nat.le_of_ble_eq_true rfl, Nat.le_of_ble_eq_true rfl⟩) hD hS hA (fun σ1 μ1 H locs hw_3318 hP hD hS => ?_)
                      obtain ⟨I_3319, hu_3320, hg_3321, hp_3323, hfn_3324, hfr_3325⟩ := hw_3318
                      obtain ⟨hu_3320a, hu_3320b⟩ := Prod.mk.inj hu_3320
                      rw [hu_3320a, hu_3320b] at hP hD
                      replace hF := hF.trans (bv_n hfn_3324)
                      replace hFr := fr_tr hFr hfr_3325
                      have tt_3326 := hp_3323
                      have hG := GX.tr hG hg_3321 (by decide +kernel)
                      have tt_3327 : (I_3319 193 this).toInt = (I_3227 193 this).toInt := by rw [hg_3321.2.1 193 (by decide +kernel) (by decide +kernel)]
                      refine lv_goto (tgt := 154) hx hb dX6_advance_121 (by decide +kernel) ?_
                      subst hQ
                      exact W.vret hx hb hr (fun t1 ht hW => ⟨⟨(σ, I_3319, J, ri, rj, rq), rfl, ⟨I_3319, rfl, hG, (by omega), (by omega), (hF0.symm.trans hF), hFr⟩, by rw [ht]; exact hP, va_K.moved hW.alike hK, hD⟩, hS.F ht⟩) hS.2.2 dX6_advance_154
                  · replace hF := hF.trans (if_neg c_3251)
                    obtain ⟨f_3328, f_3329⟩ := (hr_3247.resolve_right (fun q => c_3251 q.1)).2
                    have uf_3328 := f_3328.1
                    have vf_3328 := f_3328.2
                    have tc_3330 : (x_3243).toInt ≠ 0 := fun q => c_3251 (Int32.toInt_inj.mp q)
                    have h_3331 : rg x_3243 1 1 := rg_ne c_3251 h_3250 0 rfl (by decide +kernel)
                    have uh_3331 := h_3331.1
                    have vh_3331 := h_3331.2
                    refine lv_aload_n hx hb dX6_advance_95 rfl (lv_at hl 0 rfl) ?_
                    have tt_3332 := congrArg Int32.toInt ex_1651
                    have tt_3333 := congrArg Int32.toInt ex_3242
                    refine pk_v (va_runV (As := []) (rest := []) ⟨hx, hb, hml, hown, hts⟩ (s_X6_takeNumber_x l D t σ I_3227 J ri rj rq H.size tg hSH hG.1 this hL_this hK_this w_1650 hR_w_1650 hL_w_1650 hK_w_1650 hN_w_1650 hT_w_1650 M hL_M hK_M hO_this (by omega) (by omega)) (cwV 0 hts (tw_V tw_672 tw_673 tw_674 tw_153 tw_675) rfl rfl rfl cv_yX6_takeNumber_0 ⟨Nat.le_of_ble_eq_true rfl, Nat.le_of_ble_eq_true rfl⟩) ⟨pq_blind, pq_recv hK hP hL_this hK_this (by decide +kernel) rfl, pq_pre hK hN hP hD⟩ rfl rfl hl.1 rfl (lv_room (Nat.le_of_ble_eq_true rfl)) dX6_advance_96 ⟨Nat.le_of_ble_eq_true rfl, Nat.le_of_ble_eq_true rfl⟩) hD hS hA (fun σ1 μ1 H locs hw_3335 hP hD hS => ?_)
                    obtain ⟨I_3336, hu_3337, hg_3338, hp_3340, hfn_3341, hfr_3342⟩ := hw_3335
                    obtain ⟨hu_3337a, hu_3337b⟩ := Prod.mk.inj hu_3337
                    rw [hu_3337a, hu_3337b] at hP hD
                    replace hF := hF.trans (bv_n hfn_3341)
                    replace hFr := fr_tr hFr hfr_3342
                    have tt_3343 := hp_3340
                    have hG := GX.tr hG hg_3338 (by decide +kernel)
                    have tt_3344 : (I_3336 193 this).toInt = (I_3227 193 this).toInt := by rw [hg_3338.2.1 193 (by decide +kernel) (by decide +kernel)]
                    refine lv_goto (tgt := 154) hx hb dX6_advance_99 (by decide +kernel) ?_
                    subst hQ
                    exact W.vret hx hb hr (fun t1 ht hW => ⟨⟨(σ, I_3336, J, ri, rj, rq), rfl, ⟨I_3336, rfl, hG, (by omega), (by omega), (hF0.symm.trans hF), hFr⟩, by rw [ht]; exact hP, va_K.moved hW.alike hK, hD⟩, hS.F ht⟩) hS.2.2 dX6_advance_154
                · replace hF := hF.trans (if_neg c_3235)
                  have tc_3345 : (I_3227 193 this).toInt ≤ (I_3227 197 this).toInt := Int32.le_iff_toInt_le.mp (nlt c_3235)
                  have h_3346 : rg (I_3227 197 this) 1 300 := rg_le2 (nlt c_3235) h_3233 h_3231 (by decide +kernel)
                  have uh_3346 := h_3346.1
                  have vh_3346 := h_3346.2
                  refine lv_aload_n hx hb dX6_advance_71 rfl (lv_at hl 0 rfl) ?_
                  refine lv_bipush (v := 33) hx hb dX6_advance_72 (by decide +kernel) ?_
                  refine pp_i (v := 33) (ty := .int) (C := RX6) (T := TX6) (N := 6) hx hb hts (tw_i inlX6) tyX6 tyX6_ok nmX6 hown hK hP hD hS hL_this hK_this (by decide +kernel) rfl 2 194 (by decide +kernel) (hts _ (tw_c tw_668)) rfl (tyX6_ok 2 (by decide +kernel)) rfl rfl (Nat.le_of_ble_eq_true rfl) (ps_194 _ _ _ _ _) dX6_advance_74 (fun I_3347 H locs eI_3347 hP hD hS => ?_)
                  replace hFr := fr_I (f := 194) hFr hO_this (by decide +kernel) eI_3347
                  replace hF := hF.trans (ap_n (vI_st (f := 194) hO_this (by decide +kernel) eI_3347))
                  have hG := GX.wI hG 194 rfl eI_3347 (rg_w (rg_k (33 : Int32) 33 rfl) (by decide +kernel)) (by decide +kernel)
                  have tt_3348 : (I_3347 197 this).toInt = (I_3227 197 this).toInt := by rw [eI_3347, pq_uf _ _ _ (by decide +kernel)]
                  have tt_3349 : (I_3347 193 this).toInt = (I_3227 193 this).toInt := by rw [eI_3347, pq_uf _ _ _ (by decide +kernel)]
                  have tt_3350 : (I_3347 194 this).toInt = 33 := by rw [eI_3347, pq_us]; rfl
                  refine lv_goto (tgt := 154) hx hb dX6_advance_77 (by decide +kernel) ?_
                  subst hQ
                  exact W.vret hx hb hr (fun t1 ht hW => ⟨⟨(σ, I_3347, J, ri, rj, rq), rfl, ⟨I_3347, rfl, hG, (by omega), (by omega), (hF0.symm.trans hF), hFr⟩, by rw [ht]; exact hP, va_K.moved hW.alike hK, hD⟩, hS.F ht⟩) hS.2.2 dX6_advance_154
              refine lv_icmp_ge (tgt := 52) hx hb dX6_advance_8 (by decide +kernel) (fun c_3351 => ?_) (fun c_3351 => ?_)
              · replace hF := hF.trans (if_pos c_3351)
                have tc_3356 : (I_2946 193 this).toInt ≤ (I_2946 197 this).toInt := Int32.le_iff_toInt_le.mp c_3351
                have h_3357 : rg (I_2946 197 this) 1 300 := rg_le2 c_3351 h_3092 h_3090 (by decide +kernel)
                have uh_3357 := h_3357.1
                have vh_3357 := h_3357.2
                exact K_3226 _ _ _ hF hFr hG hP hD hS (lv_sub hl [0] rfl)
              · replace hF := hF.trans (if_neg c_3351)
                have tc_3358 : (I_2946 197 this).toInt < (I_2946 193 this).toInt := Int32.lt_iff_toInt_lt.mp (nle c_3351)
                have h_3359 : rg (I_2946 197 this) 0 299 := rg_lt1 (nle c_3351) h_3090 h_3092 (by decide +kernel)
                have uh_3359 := h_3359.1
                have vh_3359 := h_3359.2
                refine lv_aload_n hx hb dX6_advance_11 rfl (lv_at hl 0 rfl) ?_
                refine pg_f (v := .ref w_1650) (C := RX6) (T := TX6) (N := 6) hx hb hts (tw_i inlX6) hown hK hP hL_this hK_this (by decide +kernel) rfl 0 (by decide +kernel) (hts _ (tw_c tw_165)) (pq_hv rfl hR_w_1650) dX6_advance_12 ?_
                refine lv_aload_n hx hb dX6_advance_15 rfl (lv_at hl 0 rfl) ?_
                refine pg_f (v := .int (I_2946 197 this)) (C := RX6) (T := TX6) (N := 6) hx hb hts (tw_i inlX6) hown hK hP hL_this hK_this (by decide +kernel) rfl 5 (by decide +kernel) (hts _ (tw_c tw_662)) rfl dX6_advance_16 ?_
                refine pl_i hx hb hK hP hL_w_1650 hK_w_1650 hN_w_1650 (rg_in h_3359 (by decide +kernel)) dX6_advance_19 ?_
                refine lv_topi (fun x_3360 ex_3360 => ?_)
                replace hF := hF.trans (ap_n (vR_r hO_w_1650 (by decide +kernel) ex_3360))
                have ex_3360 : x_3360 = ri w_1650 ((I_2946 197 this)).toNatClampNeg := ex_3360
                refine lv_bipush (v := 32) hx hb dX6_advance_20 (by decide +kernel) ?_
                refine lv_icmp_eq (tgt := 39) hx hb dX6_advance_22 (by decide +kernel) (fun c_3361 => ?_) (fun c_3361 => ?_)
                · replace hF := hF.trans (if_pos c_3361)
                  have tc_3365 : (x_3360).toInt = 32 := congrArg Int32.toInt c_3361
                  have h_3366 : rg x_3360 32 32 := rg_and (rg_full _) (rg_of_eq c_3361 (rg_k (32 : Int32) 32 rfl)) (by decide +kernel)
                  have uh_3366 := h_3366.1
                  have vh_3366 := h_3366.2
                  refine lv_aload_n hx hb dX6_advance_39 rfl (lv_at hl 0 rfl) ?_
                  refine lv_dup hx hb dX6_advance_40 rfl ?_
                  refine pg_f (v := .int (I_2946 197 this)) (C := RX6) (T := TX6) (N := 6) hx hb hts (tw_i inlX6) hown hK hP hL_this hK_this (by decide +kernel) rfl 5 (by decide +kernel) (hts _ (tw_c tw_662)) rfl dX6_advance_41 ?_
                  refine lv_iconst (v := 1) hx hb dX6_advance_44 (by decide +kernel) ?_
                  refine lv_iadd hx hb dX6_advance_45 ?_
                  refine lv_topi (fun x_3367 ex_3367 => ?_)
                  replace hF := hF.trans (ap_n ex_3367)
                  have h_3368 : rg x_3367 1 300 := rg_of_eq ex_3367 (rg_add h_3359 (rg_k (1 : Int32) 1 rfl) (by decide +kernel))
                  have uh_3368 := h_3368.1
                  have vh_3368 := h_3368.2
                  have tx_3367 : (x_3367).toInt = (I_2946 197 this).toInt + 1 := by rw [ex_3367]; exact i_add_rg (a2 := (I_2946 197 this).toInt) (b2 := 1) rfl rfl h_3359 (rg_k (1 : Int32) 1 rfl) (by decide +kernel)
                  refine pp_i (v := x_3367) (ty := .int) (C := RX6) (T := TX6) (N := 6) hx hb hts (tw_i inlX6) tyX6 tyX6_ok nmX6 hown hK hP hD hS hL_this hK_this (by decide +kernel) rfl 5 197 (by decide +kernel) (hts _ (tw_c tw_662)) rfl (tyX6_ok 5 (by decide +kernel)) rfl rfl (Nat.le_of_ble_eq_true rfl) (ps_197 _ _ _ _ _) dX6_advance_46 (fun I_3369 H locs eI_3369 hP hD hS => ?_)
                  replace hFr := fr_I (f := 197) hFr hO_this (by decide +kernel) eI_3369
                  replace hF := hF.trans (ap_n (vI_st (f := 197) hO_this (by decide +kernel) eI_3369))
                  have hG := GX.wI hG 197 rfl eI_3369 (rg_w h_3368 (by decide +kernel)) (by decide +kernel)
                  have tt_3370 : (I_3369 197 this).toInt = (x_3367).toInt := by rw [eI_3369, pq_us]
                  have tt_3371 : (I_3369 193 this).toInt = (I_2946 193 this).toInt := by rw [eI_3369, pq_uf _ _ _ (by decide +kernel)]
                  have tt_3372 : (I_3369 194 this).toInt = (I_2946 194 this).toInt := by rw [eI_3369, pq_uf _ _ _ (by decide +kernel)]
                  refine lv_goto (tgt := 0) hx hb dX6_advance_49 (by decide +kernel) ?_
                  exact ih_3087 I_3369 _ _ _ (by omega) (ms_fu_iadd hm_3084 (by rw [eI_3369]; exact pq_us _ _ _ _) ex_3367 rfl (kk := 1) rfl (by decide +kernel) h_3359 (by decide +kernel) (by decide +kernel)) hF hFr hG hP hD hS (lv_sub hl [0] rfl)
                · replace hF := hF.trans (if_neg c_3361)
                  have tc_3373 : (x_3360).toInt ≠ 32 := fun q => c_3361 (Int32.toInt_inj.mp q)
                  refine lv_aload_n hx hb dX6_advance_25 rfl (lv_at hl 0 rfl) ?_
                  refine pg_f (v := .ref w_1650) (C := RX6) (T := TX6) (N := 6) hx hb hts (tw_i inlX6) hown hK hP hL_this hK_this (by decide +kernel) rfl 0 (by decide +kernel) (hts _ (tw_c tw_165)) (pq_hv rfl hR_w_1650) dX6_advance_26 ?_
                  refine lv_aload_n hx hb dX6_advance_29 rfl (lv_at hl 0 rfl) ?_
                  refine pg_f (v := .int (I_2946 197 this)) (C := RX6) (T := TX6) (N := 6) hx hb hts (tw_i inlX6) hown hK hP hL_this hK_this (by decide +kernel) rfl 5 (by decide +kernel) (hts _ (tw_c tw_662)) rfl dX6_advance_30 ?_
                  refine pl_i hx hb hK hP hL_w_1650 hK_w_1650 hN_w_1650 (rg_in h_3359 (by decide +kernel)) dX6_advance_33 ?_
                  refine lv_tov x_3360 ex_3360.symm ?_
                  refine lv_bipush (v := 10) hx hb dX6_advance_34 (by decide +kernel) ?_
                  refine lv_icmp_ne (tgt := 52) hx hb dX6_advance_36 (by decide +kernel) (fun c_3374 => ?_) (fun c_3374 => ?_)
                  · replace hF := hF.trans (if_neg c_3374)
                    have tc_3378 : (x_3360).toInt ≠ 10 := fun q => c_3374 (Int32.toInt_inj.mp q)
                    exact K_3226 _ _ _ hF hFr hG hP hD hS (lv_sub hl [0] rfl)
                  · replace hF := hF.trans (if_pos c_3374)
                    have tc_3379 : (x_3360).toInt = 10 := congrArg Int32.toInt c_3374
                    have h_3380 : rg x_3360 10 10 := rg_and (rg_full _) (rg_of_eq c_3374 (rg_k (10 : Int32) 10 rfl)) (by decide +kernel)
                    have uh_3380 := h_3380.1
                    have vh_3380 := h_3380.2
                    refine lv_aload_n hx hb dX6_advance_39 rfl (lv_at hl 0 rfl) ?_
                    refine lv_dup hx hb dX6_advance_40 rfl ?_
                    refine pg_f (v := .int (I_2946 197 this)) (C := RX6) (T := TX6) (N := 6) hx hb hts (tw_i inlX6) hown hK hP hL_this hK_this (by decide +kernel) rfl 5 (by decide +kernel) (hts _ (tw_c tw_662)) rfl dX6_advance_41 ?_
                    refine lv_iconst (v := 1) hx hb dX6_advance_44 (by decide +kernel) ?_
                    refine lv_iadd hx hb dX6_advance_45 ?_
                    refine lv_topi (fun x_3381 ex_3381 => ?_)
                    replace hF := hF.trans (ap_n ex_3381)
                    have h_3382 : rg x_3381 1 300 := rg_of_eq ex_3381 (rg_add h_3359 (rg_k (1 : Int32) 1 rfl) (by decide +kernel))
                    have uh_3382 := h_3382.1
                    have vh_3382 := h_3382.2
                    have tx_3381 : (x_3381).toInt = (I_2946 197 this).toInt + 1 := by rw [ex_3381]; exact i_add_rg (a2 := (I_2946 197 this).toInt) (b2 := 1) rfl rfl h_3359 (rg_k (1 : Int32) 1 rfl) (by decide +kernel)
                    refine pp_i (v := x_3381) (ty := .int) (C := RX6) (T := TX6) (N := 6) hx hb hts (tw_i inlX6) tyX6 tyX6_ok nmX6 hown hK hP hD hS hL_this hK_this (by decide +kernel) rfl 5 197 (by decide +kernel) (hts _ (tw_c tw_662)) rfl (tyX6_ok 5 (by decide +kernel)) rfl rfl (Nat.le_of_ble_eq_true rfl) (ps_197 _ _ _ _ _) dX6_advance_46 (fun I_3383 H locs eI_3383 hP hD hS => ?_)
                    replace hFr := fr_I (f := 197) hFr hO_this (by decide +kernel) eI_3383
                    replace hF := hF.trans (ap_n (vI_st (f := 197) hO_this (by decide +kernel) eI_3383))
                    have hG := GX.wI hG 197 rfl eI_3383 (rg_w h_3382 (by decide +kernel)) (by decide +kernel)
                    have tt_3384 : (I_3383 197 this).toInt = (x_3381).toInt := by rw [eI_3383, pq_us]
                    have tt_3385 : (I_3383 193 this).toInt = (I_2946 193 this).toInt := by rw [eI_3383, pq_uf _ _ _ (by decide +kernel)]
                    have tt_3386 : (I_3383 194 this).toInt = (I_2946 194 this).toInt := by rw [eI_3383, pq_uf _ _ _ (by decide +kernel)]
                    refine lv_goto (tgt := 0) hx hb dX6_advance_49 (by decide +kernel) ?_
                    exact ih_3087 I_3383 _ _ _ (by omega) (ms_fu_iadd hm_3084 (by rw [eI_3383]; exact pq_us _ _ _ _) ex_3381 rfl (kk := 1) rfl (by decide +kernel) h_3359 (by decide +kernel) (by decide +kernel)) hF hFr hG hP hD hS (lv_sub hl [0] rfl)
          replace hF := hF.trans (ap_n (vI_e (f := 197) hO_this (by decide +kernel)))
          exact L_3086 _ I_2529 _ _ _ (by omega) (Nat.lt_succ_self _) hF hFr hG hP hD hS (lv_sub hl [0] rfl)
  exact go _ _ _ hP hD hS hl
