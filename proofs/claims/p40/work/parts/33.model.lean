theorem dX12_beds_0 : decode cX12_beds 0 = .ok (.aload_n 0, 1) := oc_42 (by decide +kernel)
theorem dX12_beds_1 : decode cX12_beds 1 = .ok (.iload_n 1, 1) := oc_27 (by decide +kernel)
theorem dX12_beds_2 : decode cX12_beds 2 = .ok (.invokevirtual 88, 3) := oc_182 (a := 0) (b := 88) (by decide +kernel)
theorem dX12_beds_26 : decode cX12_beds 26 = .ok (.iconst (-1), 1) := oc_2 (by decide +kernel)
theorem dX12_beds_27 : decode cX12_beds 27 = .ok (.ireturn, 1) := oc_172 (by decide +kernel)
theorem dX12_beds_5 : decode cX12_beds 5 = .ok (.ifCond .eq 21, 3) := oc_153 (a := 0) (b := 21) (by decide +kernel)
theorem dX12_beds_8 : decode cX12_beds 8 = .ok (.iload_n 2, 1) := oc_28 (by decide +kernel)
theorem dX12_beds_9 : decode cX12_beds 9 = .ok (.iconst 0, 1) := oc_3 (by decide +kernel)
theorem dX12_beds_10 : decode cX12_beds 10 = .ok (.bipush 20, 2) := oc_16 (a := 20) (by decide +kernel)
theorem dX12_beds_12 : decode cX12_beds 12 = .ok (.aload_n 0, 1) := oc_42 (by decide +kernel)
theorem dX12_beds_13 : decode cX12_beds 13 = .ok (.iload_n 1, 1) := oc_27 (by decide +kernel)
theorem dX12_beds_14 : decode cX12_beds 14 = .ok (.bipush 7, 2) := oc_16 (a := 7) (by decide +kernel)
theorem dX12_beds_16 : decode cX12_beds 16 = .ok (.invokevirtual 91, 3) := oc_182 (a := 0) (b := 91) (by decide +kernel)
theorem dX12_beds_19 : decode cX12_beds 19 = .ok (.isub, 1) := oc_100 (by decide +kernel)
theorem dX12_beds_20 : decode cX12_beds 20 = .ok (.invokestatic 62, 3) := oc_184 (a := 0) (b := 62) (by decide +kernel)
theorem dX12_beds_23 : decode cX12_beds 23 = .ok (.ifCond .ne 5, 3) := oc_154 (a := 0) (b := 5) (by decide +kernel)
theorem dX12_beds_28 : decode cX12_beds 28 = .ok (.aload_n 0, 1) := oc_42 (by decide +kernel)
theorem dX12_beds_29 : decode cX12_beds 29 = .ok (.getfield 7, 3) := oc_180 (a := 0) (b := 7) (by decide +kernel)
theorem dX12_beds_32 : decode cX12_beds 32 = .ok (.bipush 100, 2) := oc_16 (a := 100) (by decide +kernel)
theorem dX12_beds_34 : decode cX12_beds 34 = .ok (.bipush 16, 2) := oc_16 (a := 16) (by decide +kernel)
theorem dX12_beds_36 : decode cX12_beds 36 = .ok (.iload_n 1, 1) := oc_27 (by decide +kernel)
theorem dX12_beds_37 : decode cX12_beds 37 = .ok (.imul, 1) := oc_104 (by decide +kernel)
theorem dX12_beds_38 : decode cX12_beds 38 = .ok (.iadd, 1) := oc_96 (by decide +kernel)
theorem dX12_beds_39 : decode cX12_beds 39 = .ok (.bipush 7, 2) := oc_16 (a := 7) (by decide +kernel)
theorem dX12_beds_41 : decode cX12_beds 41 = .ok (.iadd, 1) := oc_96 (by decide +kernel)
theorem dX12_beds_42 : decode cX12_beds 42 = .ok (.dup2, 1) := oc_92 (by decide +kernel)
theorem dX12_beds_43 : decode cX12_beds 43 = .ok (.iaload, 1) := oc_46 (by decide +kernel)
theorem dX12_beds_44 : decode cX12_beds 44 = .ok (.iload_n 2, 1) := oc_28 (by decide +kernel)
theorem dX12_beds_45 : decode cX12_beds 45 = .ok (.iadd, 1) := oc_96 (by decide +kernel)
theorem dX12_beds_46 : decode cX12_beds 46 = .ok (.iastore, 1) := oc_79 (by decide +kernel)
theorem dX12_beds_47 : decode cX12_beds 47 = .ok (.aload_n 0, 1) := oc_42 (by decide +kernel)
theorem dX12_beds_48 : decode cX12_beds 48 = .ok (.iload_n 1, 1) := oc_27 (by decide +kernel)
theorem dX12_beds_49 : decode cX12_beds 49 = .ok (.bipush 7, 2) := oc_16 (a := 7) (by decide +kernel)
theorem dX12_beds_51 : decode cX12_beds 51 = .ok (.invokevirtual 91, 3) := oc_182 (a := 0) (b := 91) (by decide +kernel)
theorem dX12_beds_54 : decode cX12_beds 54 = .ok (.ireturn, 1) := oc_172 (by decide +kernel)
theorem dX12_lot_0 : decode cX12_lot 0 = .ok (.iload_n 1, 1) := oc_27 (by decide +kernel)
theorem dX12_lot_1 : decode cX12_lot 1 = .ok (.iconst 0, 1) := oc_3 (by decide +kernel)
theorem dX12_lot_2 : decode cX12_lot 2 = .ok (.bipush 60, 2) := oc_16 (a := 60) (by decide +kernel)
theorem dX12_lot_4 : decode cX12_lot 4 = .ok (.invokestatic 62, 3) := oc_184 (a := 0) (b := 62) (by decide +kernel)
theorem dX12_lot_20 : decode cX12_lot 20 = .ok (.iconst (-1), 1) := oc_2 (by decide +kernel)
theorem dX12_lot_21 : decode cX12_lot 21 = .ok (.ireturn, 1) := oc_172 (by decide +kernel)
theorem dX12_lot_7 : decode cX12_lot 7 = .ok (.ifCond .eq 13, 3) := oc_153 (a := 0) (b := 13) (by decide +kernel)
theorem dX12_lot_10 : decode cX12_lot 10 = .ok (.aload_n 0, 1) := oc_42 (by decide +kernel)
theorem dX12_lot_11 : decode cX12_lot 11 = .ok (.getfield 7, 3) := oc_180 (a := 0) (b := 7) (by decide +kernel)
theorem dX12_lot_14 : decode cX12_lot 14 = .ok (.iconst 4, 1) := oc_7 (by decide +kernel)
theorem dX12_lot_15 : decode cX12_lot 15 = .ok (.iaload, 1) := oc_46 (by decide +kernel)
theorem dX12_lot_16 : decode cX12_lot 16 = .ok (.iconst 5, 1) := oc_8 (by decide +kernel)
theorem dX12_lot_17 : decode cX12_lot 17 = .ok (.if_icmp .ne 5, 3) := oc_160 (a := 0) (b := 5) (by decide +kernel)
theorem dX12_lot_22 : decode cX12_lot 22 = .ok (.aload_n 0, 1) := oc_42 (by decide +kernel)
theorem dX12_lot_23 : decode cX12_lot 23 = .ok (.getfield 7, 3) := oc_180 (a := 0) (b := 7) (by decide +kernel)
theorem dX12_lot_26 : decode cX12_lot 26 = .ok (.bipush 80, 2) := oc_16 (a := 80) (by decide +kernel)
theorem dX12_lot_28 : decode cX12_lot 28 = .ok (.aload_n 0, 1) := oc_42 (by decide +kernel)
theorem dX12_lot_29 : decode cX12_lot 29 = .ok (.getfield 7, 3) := oc_180 (a := 0) (b := 7) (by decide +kernel)
theorem dX12_lot_32 : decode cX12_lot 32 = .ok (.iconst 4, 1) := oc_7 (by decide +kernel)
theorem dX12_lot_33 : decode cX12_lot 33 = .ok (.iaload, 1) := oc_46 (by decide +kernel)
theorem dX12_lot_34 : decode cX12_lot 34 = .ok (.iadd, 1) := oc_96 (by decide +kernel)
theorem dX12_lot_35 : decode cX12_lot 35 = .ok (.iload_n 1, 1) := oc_27 (by decide +kernel)
theorem dX12_lot_36 : decode cX12_lot 36 = .ok (.iastore, 1) := oc_79 (by decide +kernel)
theorem dX12_lot_37 : decode cX12_lot 37 = .ok (.aload_n 0, 1) := oc_42 (by decide +kernel)
theorem dX12_lot_38 : decode cX12_lot 38 = .ok (.getfield 7, 3) := oc_180 (a := 0) (b := 7) (by decide +kernel)
theorem dX12_lot_41 : decode cX12_lot 41 = .ok (.iconst 4, 1) := oc_7 (by decide +kernel)
theorem dX12_lot_42 : decode cX12_lot 42 = .ok (.dup2, 1) := oc_92 (by decide +kernel)
theorem dX12_lot_43 : decode cX12_lot 43 = .ok (.iaload, 1) := oc_46 (by decide +kernel)
theorem dX12_lot_44 : decode cX12_lot 44 = .ok (.iconst 1, 1) := oc_4 (by decide +kernel)
theorem dX12_lot_45 : decode cX12_lot 45 = .ok (.iadd, 1) := oc_96 (by decide +kernel)
theorem dX12_lot_46 : decode cX12_lot 46 = .ok (.iastore, 1) := oc_79 (by decide +kernel)
theorem dX12_lot_47 : decode cX12_lot 47 = .ok (.aload_n 0, 1) := oc_42 (by decide +kernel)
theorem dX12_lot_48 : decode cX12_lot 48 = .ok (.getfield 7, 3) := oc_180 (a := 0) (b := 7) (by decide +kernel)
theorem dX12_lot_51 : decode cX12_lot 51 = .ok (.iconst 4, 1) := oc_7 (by decide +kernel)
theorem dX12_lot_52 : decode cX12_lot 52 = .ok (.iaload, 1) := oc_46 (by decide +kernel)
theorem dX12_lot_53 : decode cX12_lot 53 = .ok (.iconst 1, 1) := oc_4 (by decide +kernel)
theorem dX12_lot_54 : decode cX12_lot 54 = .ok (.isub, 1) := oc_100 (by decide +kernel)
theorem dX12_lot_55 : decode cX12_lot 55 = .ok (.ireturn, 1) := oc_172 (by decide +kernel)
theorem dX12_person_0 : decode cX12_person 0 = .ok (.iload_n 1, 1) := oc_27 (by decide +kernel)
theorem dX12_person_1 : decode cX12_person 1 = .ok (.iconst 0, 1) := oc_3 (by decide +kernel)
theorem dX12_person_2 : decode cX12_person 2 = .ok (.bipush 9, 2) := oc_16 (a := 9) (by decide +kernel)
theorem dX12_person_4 : decode cX12_person 4 = .ok (.invokestatic 62, 3) := oc_184 (a := 0) (b := 62) (by decide +kernel)
theorem dX12_person_61 : decode cX12_person 61 = .ok (.iconst (-1), 1) := oc_2 (by decide +kernel)
theorem dX12_person_62 : decode cX12_person 62 = .ok (.ireturn, 1) := oc_172 (by decide +kernel)
theorem dX12_person_7 : decode cX12_person 7 = .ok (.ifCond .eq 54, 3) := oc_153 (a := 0) (b := 54) (by decide +kernel)
theorem dX12_person_10 : decode cX12_person 10 = .ok (.iload_n 2, 1) := oc_28 (by decide +kernel)
theorem dX12_person_11 : decode cX12_person 11 = .ok (.iconst 0, 1) := oc_3 (by decide +kernel)
theorem dX12_person_12 : decode cX12_person 12 = .ok (.bipush 99, 2) := oc_16 (a := 99) (by decide +kernel)
theorem dX12_person_14 : decode cX12_person 14 = .ok (.invokestatic 62, 3) := oc_184 (a := 0) (b := 62) (by decide +kernel)
theorem dX12_person_17 : decode cX12_person 17 = .ok (.ifCond .eq 44, 3) := oc_153 (a := 0) (b := 44) (by decide +kernel)
theorem dX12_person_20 : decode cX12_person 20 = .ok (.iload_n 3, 1) := oc_29 (by decide +kernel)
theorem dX12_person_21 : decode cX12_person 21 = .ok (.iconst 0, 1) := oc_3 (by decide +kernel)
theorem dX12_person_22 : decode cX12_person 22 = .ok (.bipush 7, 2) := oc_16 (a := 7) (by decide +kernel)
theorem dX12_person_24 : decode cX12_person 24 = .ok (.invokestatic 62, 3) := oc_184 (a := 0) (b := 62) (by decide +kernel)
theorem dX12_person_27 : decode cX12_person 27 = .ok (.ifCond .eq 34, 3) := oc_153 (a := 0) (b := 34) (by decide +kernel)
theorem dX12_person_30 : decode cX12_person 30 = .ok (.aload_n 0, 1) := oc_42 (by decide +kernel)
theorem dX12_person_31 : decode cX12_person 31 = .ok (.iload 4, 2) := oc_21 (by decide +kernel)
theorem dX12_person_33 : decode cX12_person 33 = .ok (.invokevirtual 66, 3) := oc_182 (a := 0) (b := 66) (by decide +kernel)
theorem dX12_person_36 : decode cX12_person 36 = .ok (.ifCond .eq 25, 3) := oc_153 (a := 0) (b := 25) (by decide +kernel)
theorem dX12_person_39 : decode cX12_person 39 = .ok (.iload 5, 2) := oc_21 (by decide +kernel)
theorem dX12_person_41 : decode cX12_person 41 = .ok (.iconst 0, 1) := oc_3 (by decide +kernel)
theorem dX12_person_42 : decode cX12_person 42 = .ok (.bipush 100, 2) := oc_16 (a := 100) (by decide +kernel)
theorem dX12_person_44 : decode cX12_person 44 = .ok (.invokestatic 62, 3) := oc_184 (a := 0) (b := 62) (by decide +kernel)
theorem dX12_person_47 : decode cX12_person 47 = .ok (.ifCond .eq 14, 3) := oc_153 (a := 0) (b := 14) (by decide +kernel)
theorem dX12_person_50 : decode cX12_person 50 = .ok (.aload_n 0, 1) := oc_42 (by decide +kernel)
theorem dX12_person_51 : decode cX12_person 51 = .ok (.getfield 7, 3) := oc_180 (a := 0) (b := 7) (by decide +kernel)
theorem dX12_person_54 : decode cX12_person 54 = .ok (.iconst 5, 1) := oc_8 (by decide +kernel)
theorem dX12_person_55 : decode cX12_person 55 = .ok (.iaload, 1) := oc_46 (by decide +kernel)
theorem dX12_person_56 : decode cX12_person 56 = .ok (.bipush 40, 2) := oc_16 (a := 40) (by decide +kernel)
theorem dX12_person_58 : decode cX12_person 58 = .ok (.if_icmp .ne 5, 3) := oc_160 (a := 0) (b := 5) (by decide +kernel)
theorem dX12_person_63 : decode cX12_person 63 = .ok (.sipush 740, 3) := oc_17 (a := 2) (b := 228) (by decide +kernel)
theorem dX12_person_66 : decode cX12_person 66 = .ok (.bipush 12, 2) := oc_16 (a := 12) (by decide +kernel)
theorem dX12_person_68 : decode cX12_person 68 = .ok (.aload_n 0, 1) := oc_42 (by decide +kernel)
theorem dX12_person_69 : decode cX12_person 69 = .ok (.getfield 7, 3) := oc_180 (a := 0) (b := 7) (by decide +kernel)
theorem dX12_person_72 : decode cX12_person 72 = .ok (.iconst 5, 1) := oc_8 (by decide +kernel)
theorem dX12_person_73 : decode cX12_person 73 = .ok (.iaload, 1) := oc_46 (by decide +kernel)
theorem dX12_person_74 : decode cX12_person 74 = .ok (.imul, 1) := oc_104 (by decide +kernel)
theorem dX12_person_75 : decode cX12_person 75 = .ok (.iadd, 1) := oc_96 (by decide +kernel)
theorem dX12_person_76 : decode cX12_person 76 = .ok (.istore 6, 2) := oc_54 (by decide +kernel)
theorem dX12_person_78 : decode cX12_person 78 = .ok (.aload_n 0, 1) := oc_42 (by decide +kernel)
theorem dX12_person_79 : decode cX12_person 79 = .ok (.getfield 7, 3) := oc_180 (a := 0) (b := 7) (by decide +kernel)
theorem dX12_person_82 : decode cX12_person 82 = .ok (.iload 6, 2) := oc_21 (by decide +kernel)
theorem dX12_person_84 : decode cX12_person 84 = .ok (.iconst 0, 1) := oc_3 (by decide +kernel)
theorem dX12_person_85 : decode cX12_person 85 = .ok (.iadd, 1) := oc_96 (by decide +kernel)
theorem dX12_person_86 : decode cX12_person 86 = .ok (.iload_n 1, 1) := oc_27 (by decide +kernel)
theorem dX12_person_87 : decode cX12_person 87 = .ok (.iastore, 1) := oc_79 (by decide +kernel)
theorem dX12_person_88 : decode cX12_person 88 = .ok (.aload_n 0, 1) := oc_42 (by decide +kernel)
theorem dX12_person_89 : decode cX12_person 89 = .ok (.getfield 7, 3) := oc_180 (a := 0) (b := 7) (by decide +kernel)
theorem dX12_person_92 : decode cX12_person 92 = .ok (.iload 6, 2) := oc_21 (by decide +kernel)
theorem dX12_person_94 : decode cX12_person 94 = .ok (.iconst 1, 1) := oc_4 (by decide +kernel)
theorem dX12_person_95 : decode cX12_person 95 = .ok (.iadd, 1) := oc_96 (by decide +kernel)
theorem dX12_person_96 : decode cX12_person 96 = .ok (.iload_n 2, 1) := oc_28 (by decide +kernel)
theorem dX12_person_97 : decode cX12_person 97 = .ok (.iastore, 1) := oc_79 (by decide +kernel)
theorem dX12_person_98 : decode cX12_person 98 = .ok (.aload_n 0, 1) := oc_42 (by decide +kernel)
theorem dX12_person_99 : decode cX12_person 99 = .ok (.getfield 7, 3) := oc_180 (a := 0) (b := 7) (by decide +kernel)
theorem dX12_person_102 : decode cX12_person 102 = .ok (.iload 6, 2) := oc_21 (by decide +kernel)
theorem dX12_person_104 : decode cX12_person 104 = .ok (.iconst 2, 1) := oc_5 (by decide +kernel)
theorem dX12_person_105 : decode cX12_person 105 = .ok (.iadd, 1) := oc_96 (by decide +kernel)
theorem dX12_person_106 : decode cX12_person 106 = .ok (.iload_n 3, 1) := oc_29 (by decide +kernel)
theorem dX12_person_107 : decode cX12_person 107 = .ok (.iastore, 1) := oc_79 (by decide +kernel)
theorem dX12_person_108 : decode cX12_person 108 = .ok (.aload_n 0, 1) := oc_42 (by decide +kernel)
theorem dX12_person_109 : decode cX12_person 109 = .ok (.getfield 7, 3) := oc_180 (a := 0) (b := 7) (by decide +kernel)
theorem dX12_person_112 : decode cX12_person 112 = .ok (.iload 6, 2) := oc_21 (by decide +kernel)
theorem dX12_person_114 : decode cX12_person 114 = .ok (.iconst 3, 1) := oc_6 (by decide +kernel)
theorem dX12_person_115 : decode cX12_person 115 = .ok (.iadd, 1) := oc_96 (by decide +kernel)
theorem dX12_person_116 : decode cX12_person 116 = .ok (.iload 4, 2) := oc_21 (by decide +kernel)
theorem dX12_person_118 : decode cX12_person 118 = .ok (.iastore, 1) := oc_79 (by decide +kernel)
theorem dX12_person_119 : decode cX12_person 119 = .ok (.aload_n 0, 1) := oc_42 (by decide +kernel)
theorem dX12_person_120 : decode cX12_person 120 = .ok (.getfield 7, 3) := oc_180 (a := 0) (b := 7) (by decide +kernel)
theorem dX12_person_123 : decode cX12_person 123 = .ok (.iload 6, 2) := oc_21 (by decide +kernel)
theorem dX12_person_125 : decode cX12_person 125 = .ok (.iconst 4, 1) := oc_7 (by decide +kernel)
theorem dX12_person_126 : decode cX12_person 126 = .ok (.iadd, 1) := oc_96 (by decide +kernel)
theorem dX12_person_127 : decode cX12_person 127 = .ok (.iload 5, 2) := oc_21 (by decide +kernel)
theorem dX12_person_129 : decode cX12_person 129 = .ok (.iastore, 1) := oc_79 (by decide +kernel)
theorem dX12_person_130 : decode cX12_person 130 = .ok (.aload_n 0, 1) := oc_42 (by decide +kernel)
theorem dX12_person_131 : decode cX12_person 131 = .ok (.getfield 7, 3) := oc_180 (a := 0) (b := 7) (by decide +kernel)
theorem dX12_person_134 : decode cX12_person 134 = .ok (.iload 6, 2) := oc_21 (by decide +kernel)
theorem dX12_person_136 : decode cX12_person 136 = .ok (.bipush 7, 2) := oc_16 (a := 7) (by decide +kernel)
theorem dX12_person_138 : decode cX12_person 138 = .ok (.iadd, 1) := oc_96 (by decide +kernel)
theorem dX12_person_139 : decode cX12_person 139 = .ok (.iconst (-1), 1) := oc_2 (by decide +kernel)
theorem dX12_person_140 : decode cX12_person 140 = .ok (.iastore, 1) := oc_79 (by decide +kernel)
theorem dX12_person_141 : decode cX12_person 141 = .ok (.aload_n 0, 1) := oc_42 (by decide +kernel)
theorem dX12_person_142 : decode cX12_person 142 = .ok (.getfield 7, 3) := oc_180 (a := 0) (b := 7) (by decide +kernel)
theorem dX12_person_145 : decode cX12_person 145 = .ok (.iload 6, 2) := oc_21 (by decide +kernel)
theorem dX12_person_147 : decode cX12_person 147 = .ok (.bipush 8, 2) := oc_16 (a := 8) (by decide +kernel)
theorem dX12_person_149 : decode cX12_person 149 = .ok (.iadd, 1) := oc_96 (by decide +kernel)
theorem dX12_person_150 : decode cX12_person 150 = .ok (.iconst (-1), 1) := oc_2 (by decide +kernel)
theorem dX12_person_151 : decode cX12_person 151 = .ok (.iastore, 1) := oc_79 (by decide +kernel)
theorem dX12_person_152 : decode cX12_person 152 = .ok (.aload_n 0, 1) := oc_42 (by decide +kernel)
theorem dX12_person_153 : decode cX12_person 153 = .ok (.getfield 7, 3) := oc_180 (a := 0) (b := 7) (by decide +kernel)
theorem dX12_person_156 : decode cX12_person 156 = .ok (.iconst 5, 1) := oc_8 (by decide +kernel)
theorem dX12_person_157 : decode cX12_person 157 = .ok (.dup2, 1) := oc_92 (by decide +kernel)
theorem dX12_person_158 : decode cX12_person 158 = .ok (.iaload, 1) := oc_46 (by decide +kernel)
theorem dX12_person_159 : decode cX12_person 159 = .ok (.iconst 1, 1) := oc_4 (by decide +kernel)
theorem dX12_person_160 : decode cX12_person 160 = .ok (.iadd, 1) := oc_96 (by decide +kernel)
theorem dX12_person_161 : decode cX12_person 161 = .ok (.iastore, 1) := oc_79 (by decide +kernel)
theorem dX12_person_162 : decode cX12_person 162 = .ok (.aload_n 0, 1) := oc_42 (by decide +kernel)
theorem dX12_person_163 : decode cX12_person 163 = .ok (.getfield 7, 3) := oc_180 (a := 0) (b := 7) (by decide +kernel)
theorem dX12_person_166 : decode cX12_person 166 = .ok (.iconst 5, 1) := oc_8 (by decide +kernel)
theorem dX12_person_167 : decode cX12_person 167 = .ok (.iaload, 1) := oc_46 (by decide +kernel)
theorem dX12_person_168 : decode cX12_person 168 = .ok (.iconst 1, 1) := oc_4 (by decide +kernel)
theorem dX12_person_169 : decode cX12_person 169 = .ok (.isub, 1) := oc_100 (by decide +kernel)
theorem dX12_person_170 : decode cX12_person 170 = .ok (.ireturn, 1) := oc_172 (by decide +kernel)
theorem dX12_personAt_0 : decode cX12_personAt 0 = .ok (.aload_n 0, 1) := oc_42 (by decide +kernel)
theorem dX12_personAt_1 : decode cX12_personAt 1 = .ok (.getfield 7, 3) := oc_180 (a := 0) (b := 7) (by decide +kernel)
theorem dX12_personAt_4 : decode cX12_personAt 4 = .ok (.sipush 740, 3) := oc_17 (a := 2) (b := 228) (by decide +kernel)
theorem dX12_personAt_7 : decode cX12_personAt 7 = .ok (.bipush 12, 2) := oc_16 (a := 12) (by decide +kernel)
theorem dX12_personAt_9 : decode cX12_personAt 9 = .ok (.iload_n 1, 1) := oc_27 (by decide +kernel)
theorem dX12_personAt_10 : decode cX12_personAt 10 = .ok (.imul, 1) := oc_104 (by decide +kernel)
theorem dX12_personAt_11 : decode cX12_personAt 11 = .ok (.iadd, 1) := oc_96 (by decide +kernel)
theorem dX12_personAt_12 : decode cX12_personAt 12 = .ok (.iload_n 2, 1) := oc_28 (by decide +kernel)
theorem dX12_personAt_13 : decode cX12_personAt 13 = .ok (.iadd, 1) := oc_96 (by decide +kernel)
theorem dX12_personAt_14 : decode cX12_personAt 14 = .ok (.iaload, 1) := oc_46 (by decide +kernel)
theorem dX12_personAt_15 : decode cX12_personAt 15 = .ok (.ireturn, 1) := oc_172 (by decide +kernel)
theorem dX12_manyAt_0 : decode cX12_manyAt 0 = .ok (.iconst 0, 1) := oc_3 (by decide +kernel)
theorem dX12_manyAt_1 : decode cX12_manyAt 1 = .ok (.istore_n 2, 1) := oc_61 (by decide +kernel)
theorem dX12_manyAt_2 : decode cX12_manyAt 2 = .ok (.iconst 0, 1) := oc_3 (by decide +kernel)
theorem dX12_manyAt_3 : decode cX12_manyAt 3 = .ok (.istore_n 3, 1) := oc_62 (by decide +kernel)
theorem dX12_manyAt_4 : decode cX12_manyAt 4 = .ok (.iload_n 3, 1) := oc_29 (by decide +kernel)
theorem dX12_manyAt_5 : decode cX12_manyAt 5 = .ok (.aload_n 0, 1) := oc_42 (by decide +kernel)
theorem dX12_manyAt_6 : decode cX12_manyAt 6 = .ok (.getfield 7, 3) := oc_180 (a := 0) (b := 7) (by decide +kernel)
theorem dX12_manyAt_9 : decode cX12_manyAt 9 = .ok (.iconst 5, 1) := oc_8 (by decide +kernel)
theorem dX12_manyAt_10 : decode cX12_manyAt 10 = .ok (.iaload, 1) := oc_46 (by decide +kernel)
theorem dX12_manyAt_11 : decode cX12_manyAt 11 = .ok (.if_icmp .ge 27, 3) := oc_162 (a := 0) (b := 27) (by decide +kernel)
theorem dX12_manyAt_38 : decode cX12_manyAt 38 = .ok (.iload_n 2, 1) := oc_28 (by decide +kernel)
theorem dX12_manyAt_39 : decode cX12_manyAt 39 = .ok (.ireturn, 1) := oc_172 (by decide +kernel)
theorem dX12_manyAt_14 : decode cX12_manyAt 14 = .ok (.iload_n 2, 1) := oc_28 (by decide +kernel)
theorem dX12_manyAt_15 : decode cX12_manyAt 15 = .ok (.aload_n 0, 1) := oc_42 (by decide +kernel)
theorem dX12_manyAt_16 : decode cX12_manyAt 16 = .ok (.iload_n 3, 1) := oc_29 (by decide +kernel)
theorem dX12_manyAt_17 : decode cX12_manyAt 17 = .ok (.iconst 3, 1) := oc_6 (by decide +kernel)
theorem tw_437 : Cond.methodLink RX12 94 yX12_personAt ∈ wsL_law := sg_19 _ (List.mem_of_getElem? (i := 5) rfl)
theorem tw_438 : Cond.instanceMethod yX12_personAt ∈ wsL_law := sg_19 _ (List.mem_of_getElem? (i := 6) rfl)
theorem tw_439 : Cond.selects RX12 yX12_personAt yX12_personAt ∈ wsL_law := sg_19 _ (List.mem_of_getElem? (i := 7) rfl)
theorem tw_440 : Cond.code yX12_personAt cX12_personAt 3 (some .int) ∈ wsL_law := sg_19 _ (List.mem_of_getElem? (i := 8) rfl)
theorem dX12_manyAt_18 : decode cX12_manyAt 18 = .ok (.invokevirtual 94, 3) := oc_182 (a := 0) (b := 94) (by decide +kernel)
theorem dX12_manyAt_21 : decode cX12_manyAt 21 = .ok (.iload_n 1, 1) := oc_27 (by decide +kernel)
theorem dX12_manyAt_30 : decode cX12_manyAt 30 = .ok (.iadd, 1) := oc_96 (by decide +kernel)
theorem dX12_manyAt_31 : decode cX12_manyAt 31 = .ok (.istore_n 2, 1) := oc_61 (by decide +kernel)
theorem dX12_manyAt_32 : decode cX12_manyAt 32 = .ok (.iinc 3 1, 3) := oc_132 (b := 1) (by decide +kernel)
theorem dX12_manyAt_35 : decode cX12_manyAt 35 = .ok (.goto (-31), 3) := oc_167 (a := 255) (b := 225) (by decide +kernel)
theorem dX12_manyAt_22 : decode cX12_manyAt 22 = .ok (.if_icmp .ne 7, 3) := oc_160 (a := 0) (b := 7) (by decide +kernel)
theorem dX12_manyAt_29 : decode cX12_manyAt 29 = .ok (.iconst 0, 1) := oc_3 (by decide +kernel)
theorem dX12_manyAt_25 : decode cX12_manyAt 25 = .ok (.iconst 1, 1) := oc_4 (by decide +kernel)
theorem dX12_manyAt_26 : decode cX12_manyAt 26 = .ok (.goto 4, 3) := oc_167 (a := 0) (b := 4) (by decide +kernel)
theorem dX12_isLot_0 : decode cX12_isLot 0 = .ok (.iload_n 1, 1) := oc_27 (by decide +kernel)
theorem dX12_isLot_1 : decode cX12_isLot 1 = .ok (.bipush 100, 2) := oc_16 (a := 100) (by decide +kernel)
theorem dX12_isLot_3 : decode cX12_isLot 3 = .ok (.bipush 100, 2) := oc_16 (a := 100) (by decide +kernel)
theorem dX12_isLot_5 : decode cX12_isLot 5 = .ok (.aload_n 0, 1) := oc_42 (by decide +kernel)
theorem dX12_isLot_6 : decode cX12_isLot 6 = .ok (.getfield 7, 3) := oc_180 (a := 0) (b := 7) (by decide +kernel)
theorem dX12_isLot_9 : decode cX12_isLot 9 = .ok (.iconst 4, 1) := oc_7 (by decide +kernel)
theorem dX12_isLot_10 : decode cX12_isLot 10 = .ok (.iaload, 1) := oc_46 (by decide +kernel)
theorem dX12_isLot_11 : decode cX12_isLot 11 = .ok (.iadd, 1) := oc_96 (by decide +kernel)
theorem dX12_isLot_12 : decode cX12_isLot 12 = .ok (.iconst 1, 1) := oc_4 (by decide +kernel)
theorem dX12_isLot_13 : decode cX12_isLot 13 = .ok (.isub, 1) := oc_100 (by decide +kernel)
theorem dX12_isLot_14 : decode cX12_isLot 14 = .ok (.invokestatic 62, 3) := oc_184 (a := 0) (b := 62) (by decide +kernel)
theorem dX12_isLot_17 : decode cX12_isLot 17 = .ok (.ireturn, 1) := oc_172 (by decide +kernel)
theorem dX12_freeIn_0 : decode cX12_freeIn 0 = .ok (.aload_n 0, 1) := oc_42 (by decide +kernel)
theorem dX12_freeIn_1 : decode cX12_freeIn 1 = .ok (.getfield 7, 3) := oc_180 (a := 0) (b := 7) (by decide +kernel)
theorem dX12_freeIn_4 : decode cX12_freeIn 4 = .ok (.bipush 80, 2) := oc_16 (a := 80) (by decide +kernel)
theorem dX12_freeIn_6 : decode cX12_freeIn 6 = .ok (.iload_n 1, 1) := oc_27 (by decide +kernel)
theorem dX12_freeIn_7 : decode cX12_freeIn 7 = .ok (.iadd, 1) := oc_96 (by decide +kernel)
theorem dX12_freeIn_8 : decode cX12_freeIn 8 = .ok (.iaload, 1) := oc_46 (by decide +kernel)
theorem dX12_freeIn_9 : decode cX12_freeIn 9 = .ok (.aload_n 0, 1) := oc_42 (by decide +kernel)
theorem dX12_freeIn_10 : decode cX12_freeIn 10 = .ok (.bipush 100, 2) := oc_16 (a := 100) (by decide +kernel)
theorem dX12_freeIn_12 : decode cX12_freeIn 12 = .ok (.iload_n 1, 1) := oc_27 (by decide +kernel)
theorem dX12_freeIn_13 : decode cX12_freeIn 13 = .ok (.iadd, 1) := oc_96 (by decide +kernel)
theorem tw_445 : Cond.methodLink RX12 97 yX12_manyAt ∈ wsL_law := sg_19 _ (List.mem_of_getElem? (i := 13) rfl)
theorem tw_446 : Cond.instanceMethod yX12_manyAt ∈ wsL_law := sg_19 _ (List.mem_of_getElem? (i := 14) rfl)
theorem tw_447 : Cond.selects RX12 yX12_manyAt yX12_manyAt ∈ wsL_law := sg_19 _ (List.mem_of_getElem? (i := 15) rfl)
theorem tw_448 : Cond.code yX12_manyAt cX12_manyAt 4 (some .int) ∈ wsL_law := sg_19 _ (List.mem_of_getElem? (i := 16) rfl)
theorem dX12_freeIn_14 : decode cX12_freeIn 14 = .ok (.invokevirtual 97, 3) := oc_182 (a := 0) (b := 97) (by decide +kernel)
theorem dX12_freeIn_17 : decode cX12_freeIn 17 = .ok (.isub, 1) := oc_100 (by decide +kernel)
theorem dX12_freeIn_18 : decode cX12_freeIn 18 = .ok (.ireturn, 1) := oc_172 (by decide +kernel)
theorem dX12_isPlace_0 : decode cX12_isPlace 0 = .ok (.aload_n 0, 1) := oc_42 (by decide +kernel)
theorem dX12_isPlace_1 : decode cX12_isPlace 1 = .ok (.iload_n 1, 1) := oc_27 (by decide +kernel)
theorem dX12_isPlace_2 : decode cX12_isPlace 2 = .ok (.invokevirtual 66, 3) := oc_182 (a := 0) (b := 66) (by decide +kernel)
theorem dX12_isPlace_5 : decode cX12_isPlace 5 = .ok (.ifCond .ne 18, 3) := oc_154 (a := 0) (b := 18) (by decide +kernel)
theorem dX12_isPlace_23 : decode cX12_isPlace 23 = .ok (.iconst 1, 1) := oc_4 (by decide +kernel)
theorem dX12_isPlace_24 : decode cX12_isPlace 24 = .ok (.goto 4, 3) := oc_167 (a := 0) (b := 4) (by decide +kernel)
theorem dX12_isPlace_28 : decode cX12_isPlace 28 = .ok (.ireturn, 1) := oc_172 (by decide +kernel)
theorem dX12_isPlace_8 : decode cX12_isPlace 8 = .ok (.aload_n 0, 1) := oc_42 (by decide +kernel)
theorem dX12_isPlace_9 : decode cX12_isPlace 9 = .ok (.iload_n 1, 1) := oc_27 (by decide +kernel)
theorem tw_433 : Cond.methodLink RX12 101 yX12_isLot ∈ wsL_law := sg_19 _ (List.mem_of_getElem? (i := 1) rfl)
theorem tw_434 : Cond.instanceMethod yX12_isLot ∈ wsL_law := sg_19 _ (List.mem_of_getElem? (i := 2) rfl)
theorem tw_435 : Cond.selects RX12 yX12_isLot yX12_isLot ∈ wsL_law := sg_19 _ (List.mem_of_getElem? (i := 3) rfl)
theorem tw_436 : Cond.code yX12_isLot cX12_isLot 2 (some .boolean) ∈ wsL_law := sg_19 _ (List.mem_of_getElem? (i := 4) rfl)
theorem dX12_isPlace_10 : decode cX12_isPlace 10 = .ok (.invokevirtual 101, 3) := oc_182 (a := 0) (b := 101) (by decide +kernel)
theorem dX12_isPlace_13 : decode cX12_isPlace 13 = .ok (.ifCond .ne 10, 3) := oc_154 (a := 0) (b := 10) (by decide +kernel)
theorem dX12_isPlace_16 : decode cX12_isPlace 16 = .ok (.iload_n 1, 1) := oc_27 (by decide +kernel)
theorem dX12_isPlace_17 : decode cX12_isPlace 17 = .ok (.sipush 200, 3) := oc_17 (a := 0) (b := 200) (by decide +kernel)
theorem dX12_isPlace_20 : decode cX12_isPlace 20 = .ok (.if_icmp .ne 7, 3) := oc_160 (a := 0) (b := 7) (by decide +kernel)
theorem dX12_isPlace_27 : decode cX12_isPlace 27 = .ok (.iconst 0, 1) := oc_3 (by decide +kernel)
theorem dX12_go_0 : decode cX12_go 0 = .ok (.aload_n 0, 1) := oc_42 (by decide +kernel)
theorem dX12_go_1 : decode cX12_go 1 = .ok (.iload_n 1, 1) := oc_27 (by decide +kernel)
theorem tw_425 : Cond.methodLink RX12 104 yX12_isPerson ∈ wsL_law := sg_18 _ (List.mem_of_getElem? (i := 17) rfl)
theorem tw_426 : Cond.instanceMethod yX12_isPerson ∈ wsL_law := sg_18 _ (List.mem_of_getElem? (i := 18) rfl)
theorem tw_427 : Cond.selects RX12 yX12_isPerson yX12_isPerson ∈ wsL_law := sg_18 _ (List.mem_of_getElem? (i := 19) rfl)
theorem tw_428 : Cond.code yX12_isPerson cX12_isPerson 2 (some .boolean) ∈ wsL_law := sg_18 _ (List.mem_of_getElem? (i := 20) rfl)
theorem dX12_go_2 : decode cX12_go 2 = .ok (.invokevirtual 104, 3) := oc_182 (a := 0) (b := 104) (by decide +kernel)
theorem dX12_go_38 : decode cX12_go 38 = .ok (.iconst 0, 1) := oc_3 (by decide +kernel)
theorem dX12_go_39 : decode cX12_go 39 = .ok (.ireturn, 1) := oc_172 (by decide +kernel)
theorem dX12_go_5 : decode cX12_go 5 = .ok (.ifCond .eq 33, 3) := oc_153 (a := 0) (b := 33) (by decide +kernel)
theorem dX12_go_8 : decode cX12_go 8 = .ok (.aload_n 0, 1) := oc_42 (by decide +kernel)
theorem dX12_go_9 : decode cX12_go 9 = .ok (.iload_n 2, 1) := oc_28 (by decide +kernel)
theorem tw_429 : Cond.methodLink RX12 107 yX12_isPlace ∈ wsL_law := sg_18 _ (List.mem_of_getElem? (i := 21) rfl)
theorem tw_430 : Cond.instanceMethod yX12_isPlace ∈ wsL_law := sg_18 _ (List.mem_of_getElem? (i := 22) rfl)
theorem tw_431 : Cond.selects RX12 yX12_isPlace yX12_isPlace ∈ wsL_law := sg_18 _ (List.mem_of_getElem? (i := 23) rfl)
theorem tw_432 : Cond.code yX12_isPlace cX12_isPlace 2 (some .boolean) ∈ wsL_law := sg_19 _ (List.mem_of_getElem? (i := 0) rfl)
theorem dX12_go_10 : decode cX12_go 10 = .ok (.invokevirtual 107, 3) := oc_182 (a := 0) (b := 107) (by decide +kernel)
theorem dX12_go_13 : decode cX12_go 13 = .ok (.ifCond .eq 25, 3) := oc_153 (a := 0) (b := 25) (by decide +kernel)
theorem dX12_go_16 : decode cX12_go 16 = .ok (.aload_n 0, 1) := oc_42 (by decide +kernel)
theorem dX12_go_17 : decode cX12_go 17 = .ok (.iload_n 1, 1) := oc_27 (by decide +kernel)
theorem dX12_go_18 : decode cX12_go 18 = .ok (.iconst 3, 1) := oc_6 (by decide +kernel)
theorem dX12_go_19 : decode cX12_go 19 = .ok (.invokevirtual 94, 3) := oc_182 (a := 0) (b := 94) (by decide +kernel)
theorem dX12_go_22 : decode cX12_go 22 = .ok (.iload_n 2, 1) := oc_28 (by decide +kernel)
theorem dX12_go_23 : decode cX12_go 23 = .ok (.if_icmp .eq 15, 3) := oc_159 (a := 0) (b := 15) (by decide +kernel)
theorem dX12_go_26 : decode cX12_go 26 = .ok (.aload_n 0, 1) := oc_42 (by decide +kernel)
theorem dX12_go_27 : decode cX12_go 27 = .ok (.iload_n 1, 1) := oc_27 (by decide +kernel)
theorem dX12_go_28 : decode cX12_go 28 = .ok (.iconst 3, 1) := oc_6 (by decide +kernel)
theorem dX12_go_29 : decode cX12_go 29 = .ok (.invokevirtual 94, 3) := oc_182 (a := 0) (b := 94) (by decide +kernel)
theorem dX12_go_32 : decode cX12_go 32 = .ok (.sipush 300, 3) := oc_17 (a := 1) (b := 44) (by decide +kernel)
theorem dX12_go_35 : decode cX12_go 35 = .ok (.if_icmp .ne 5, 3) := oc_160 (a := 0) (b := 5) (by decide +kernel)
theorem dX12_go_40 : decode cX12_go 40 = .ok (.aload_n 0, 1) := oc_42 (by decide +kernel)
theorem dX12_go_41 : decode cX12_go 41 = .ok (.iload_n 2, 1) := oc_28 (by decide +kernel)
theorem dX12_go_42 : decode cX12_go 42 = .ok (.invokevirtual 101, 3) := oc_182 (a := 0) (b := 101) (by decide +kernel)
theorem dX12_go_61 : decode cX12_go 61 = .ok (.aload_n 0, 1) := oc_42 (by decide +kernel)
theorem dX12_go_62 : decode cX12_go 62 = .ok (.getfield 7, 3) := oc_180 (a := 0) (b := 7) (by decide +kernel)
theorem dX12_go_65 : decode cX12_go 65 = .ok (.sipush 740, 3) := oc_17 (a := 2) (b := 228) (by decide +kernel)
theorem dX12_go_68 : decode cX12_go 68 = .ok (.bipush 12, 2) := oc_16 (a := 12) (by decide +kernel)
theorem dX12_go_70 : decode cX12_go 70 = .ok (.iload_n 1, 1) := oc_27 (by decide +kernel)
theorem dX12_go_71 : decode cX12_go 71 = .ok (.imul, 1) := oc_104 (by decide +kernel)
theorem dX12_go_72 : decode cX12_go 72 = .ok (.iadd, 1) := oc_96 (by decide +kernel)
theorem dX12_go_73 : decode cX12_go 73 = .ok (.iconst 3, 1) := oc_6 (by decide +kernel)
theorem dX12_go_74 : decode cX12_go 74 = .ok (.iadd, 1) := oc_96 (by decide +kernel)
theorem dX12_go_75 : decode cX12_go 75 = .ok (.iload_n 2, 1) := oc_28 (by decide +kernel)
theorem dX12_go_76 : decode cX12_go 76 = .ok (.iastore, 1) := oc_79 (by decide +kernel)
theorem dX12_go_77 : decode cX12_go 77 = .ok (.iconst 1, 1) := oc_4 (by decide +kernel)
theorem dX12_go_78 : decode cX12_go 78 = .ok (.ireturn, 1) := oc_172 (by decide +kernel)
theorem dX12_go_45 : decode cX12_go 45 = .ok (.ifCond .eq 16, 3) := oc_153 (a := 0) (b := 16) (by decide +kernel)
theorem dX12_go_48 : decode cX12_go 48 = .ok (.aload_n 0, 1) := oc_42 (by decide +kernel)
theorem dX12_go_49 : decode cX12_go 49 = .ok (.iload_n 2, 1) := oc_28 (by decide +kernel)
theorem dX12_go_50 : decode cX12_go 50 = .ok (.bipush 100, 2) := oc_16 (a := 100) (by decide +kernel)
theorem dX12_go_52 : decode cX12_go 52 = .ok (.isub, 1) := oc_100 (by decide +kernel)
theorem tw_441 : Cond.methodLink RX12 110 yX12_freeIn ∈ wsL_law := sg_19 _ (List.mem_of_getElem? (i := 9) rfl)
theorem tw_442 : Cond.instanceMethod yX12_freeIn ∈ wsL_law := sg_19 _ (List.mem_of_getElem? (i := 10) rfl)
theorem tw_443 : Cond.selects RX12 yX12_freeIn yX12_freeIn ∈ wsL_law := sg_19 _ (List.mem_of_getElem? (i := 11) rfl)
theorem tw_444 : Cond.code yX12_freeIn cX12_freeIn 2 (some .int) ∈ wsL_law := sg_19 _ (List.mem_of_getElem? (i := 12) rfl)
theorem dX12_go_53 : decode cX12_go 53 = .ok (.invokevirtual 110, 3) := oc_182 (a := 0) (b := 110) (by decide +kernel)
theorem dX12_go_56 : decode cX12_go 56 = .ok (.ifCond .gt 5, 3) := oc_157 (a := 0) (b := 5) (by decide +kernel)
theorem dX12_go_59 : decode cX12_go 59 = .ok (.iconst 0, 1) := oc_3 (by decide +kernel)
theorem dX12_go_60 : decode cX12_go 60 = .ok (.ireturn, 1) := oc_172 (by decide +kernel)
theorem dX12_clausesOf_0 : decode cX12_clausesOf 0 = .ok (.aload_n 0, 1) := oc_42 (by decide +kernel)
theorem dX12_clausesOf_1 : decode cX12_clausesOf 1 = .ok (.getfield 7, 3) := oc_180 (a := 0) (b := 7) (by decide +kernel)
theorem dX12_clausesOf_4 : decode cX12_clausesOf 4 = .ok (.sipush 3720, 3) := oc_17 (a := 14) (b := 136) (by decide +kernel)
theorem dX12_clausesOf_7 : decode cX12_clausesOf 7 = .ok (.sipush 900, 3) := oc_17 (a := 3) (b := 132) (by decide +kernel)
theorem dX12_clausesOf_10 : decode cX12_clausesOf 10 = .ok (.iload_n 1, 1) := oc_27 (by decide +kernel)
theorem dX12_clausesOf_11 : decode cX12_clausesOf 11 = .ok (.imul, 1) := oc_104 (by decide +kernel)
theorem dX12_clausesOf_12 : decode cX12_clausesOf 12 = .ok (.iadd, 1) := oc_96 (by decide +kernel)
theorem dX12_clausesOf_13 : decode cX12_clausesOf 13 = .ok (.iaload, 1) := oc_46 (by decide +kernel)
theorem dX12_clausesOf_14 : decode cX12_clausesOf 14 = .ok (.ireturn, 1) := oc_172 (by decide +kernel)
theorem dX12_clauseAt_0 : decode cX12_clauseAt 0 = .ok (.sipush 3720, 3) := oc_17 (a := 14) (b := 136) (by decide +kernel)
theorem dX12_clauseAt_3 : decode cX12_clauseAt 3 = .ok (.sipush 900, 3) := oc_17 (a := 3) (b := 132) (by decide +kernel)
theorem dX12_clauseAt_6 : decode cX12_clauseAt 6 = .ok (.iload_n 1, 1) := oc_27 (by decide +kernel)
theorem dX12_clauseAt_7 : decode cX12_clauseAt 7 = .ok (.imul, 1) := oc_104 (by decide +kernel)
theorem dX12_clauseAt_8 : decode cX12_clauseAt 8 = .ok (.iadd, 1) := oc_96 (by decide +kernel)
theorem dX12_clauseAt_9 : decode cX12_clauseAt 9 = .ok (.iconst 1, 1) := oc_4 (by decide +kernel)
theorem dX12_clauseAt_10 : decode cX12_clauseAt 10 = .ok (.iadd, 1) := oc_96 (by decide +kernel)
theorem dX12_clauseAt_11 : decode cX12_clauseAt 11 = .ok (.bipush 12, 2) := oc_16 (a := 12) (by decide +kernel)
theorem dX12_clauseAt_13 : decode cX12_clauseAt 13 = .ok (.iload_n 2, 1) := oc_28 (by decide +kernel)
theorem dX12_clauseAt_14 : decode cX12_clauseAt 14 = .ok (.imul, 1) := oc_104 (by decide +kernel)
theorem dX12_clauseAt_15 : decode cX12_clauseAt 15 = .ok (.iadd, 1) := oc_96 (by decide +kernel)
theorem dX12_clauseAt_16 : decode cX12_clauseAt 16 = .ok (.ireturn, 1) := oc_172 (by decide +kernel)
theorem dX12_firstOf_0 : decode cX12_firstOf 0 = .ok (.iconst 0, 1) := oc_3 (by decide +kernel)
theorem dX12_firstOf_1 : decode cX12_firstOf 1 = .ok (.istore_n 3, 1) := oc_62 (by decide +kernel)
theorem dX12_firstOf_2 : decode cX12_firstOf 2 = .ok (.iload_n 3, 1) := oc_29 (by decide +kernel)
theorem dX12_firstOf_3 : decode cX12_firstOf 3 = .ok (.aload_n 0, 1) := oc_42 (by decide +kernel)
theorem dX12_firstOf_4 : decode cX12_firstOf 4 = .ok (.iload_n 1, 1) := oc_27 (by decide +kernel)
theorem tw_516 : Cond.methodLink RX12 266 yX12_clausesOf ∈ wsL_law := sg_22 _ (List.mem_of_getElem? (i := 12) rfl)
theorem tw_517 : Cond.instanceMethod yX12_clausesOf ∈ wsL_law := sg_22 _ (List.mem_of_getElem? (i := 13) rfl)
theorem tw_518 : Cond.selects RX12 yX12_clausesOf yX12_clausesOf ∈ wsL_law := sg_22 _ (List.mem_of_getElem? (i := 14) rfl)
theorem tw_519 : Cond.code yX12_clausesOf cX12_clausesOf 2 (some .int) ∈ wsL_law := sg_22 _ (List.mem_of_getElem? (i := 15) rfl)
theorem dX12_firstOf_5 : decode cX12_firstOf 5 = .ok (.invokevirtual 266, 3) := oc_182 (a := 1) (b := 10) (by decide +kernel)
theorem dX12_firstOf_8 : decode cX12_firstOf 8 = .ok (.if_icmp .ge 31, 3) := oc_162 (a := 0) (b := 31) (by decide +kernel)
theorem dX12_firstOf_39 : decode cX12_firstOf 39 = .ok (.iconst (-1), 1) := oc_2 (by decide +kernel)
theorem dX12_firstOf_40 : decode cX12_firstOf 40 = .ok (.ireturn, 1) := oc_172 (by decide +kernel)
theorem dX12_firstOf_11 : decode cX12_firstOf 11 = .ok (.aload_n 0, 1) := oc_42 (by decide +kernel)
theorem dX12_firstOf_12 : decode cX12_firstOf 12 = .ok (.getfield 7, 3) := oc_180 (a := 0) (b := 7) (by decide +kernel)
theorem dX12_firstOf_15 : decode cX12_firstOf 15 = .ok (.aload_n 0, 1) := oc_42 (by decide +kernel)
theorem dX12_firstOf_16 : decode cX12_firstOf 16 = .ok (.iload_n 1, 1) := oc_27 (by decide +kernel)
theorem dX12_firstOf_17 : decode cX12_firstOf 17 = .ok (.iload_n 3, 1) := oc_29 (by decide +kernel)
theorem tw_520 : Cond.methodLink RX12 269 yX12_clauseAt ∈ wsL_law := sg_22 _ (List.mem_of_getElem? (i := 16) rfl)
theorem tw_521 : Cond.instanceMethod yX12_clauseAt ∈ wsL_law := sg_22 _ (List.mem_of_getElem? (i := 17) rfl)
theorem tw_522 : Cond.selects RX12 yX12_clauseAt yX12_clauseAt ∈ wsL_law := sg_22 _ (List.mem_of_getElem? (i := 18) rfl)
theorem tw_523 : Cond.code yX12_clauseAt cX12_clauseAt 3 (some .int) ∈ wsL_law := sg_22 _ (List.mem_of_getElem? (i := 19) rfl)
theorem dX12_firstOf_18 : decode cX12_firstOf 18 = .ok (.invokevirtual 269, 3) := oc_182 (a := 1) (b := 13) (by decide +kernel)
theorem dX12_firstOf_21 : decode cX12_firstOf 21 = .ok (.iaload, 1) := oc_46 (by decide +kernel)
theorem dX12_firstOf_22 : decode cX12_firstOf 22 = .ok (.iload_n 2, 1) := oc_28 (by decide +kernel)
theorem dX12_firstOf_23 : decode cX12_firstOf 23 = .ok (.if_icmp .ne 10, 3) := oc_160 (a := 0) (b := 10) (by decide +kernel)
theorem dX12_firstOf_33 : decode cX12_firstOf 33 = .ok (.iinc 3 1, 3) := oc_132 (b := 1) (by decide +kernel)
theorem dX12_firstOf_36 : decode cX12_firstOf 36 = .ok (.goto (-34), 3) := oc_167 (a := 255) (b := 222) (by decide +kernel)
theorem dX12_firstOf_26 : decode cX12_firstOf 26 = .ok (.aload_n 0, 1) := oc_42 (by decide +kernel)
theorem dX12_firstOf_27 : decode cX12_firstOf 27 = .ok (.iload_n 1, 1) := oc_27 (by decide +kernel)
theorem dX12_firstOf_28 : decode cX12_firstOf 28 = .ok (.iload_n 3, 1) := oc_29 (by decide +kernel)
theorem dX12_firstOf_29 : decode cX12_firstOf 29 = .ok (.invokevirtual 269, 3) := oc_182 (a := 1) (b := 13) (by decide +kernel)
theorem dX12_firstOf_32 : decode cX12_firstOf 32 = .ok (.ireturn, 1) := oc_172 (by decide +kernel)
set_option maxHeartbeats 4000000 in
set_option maxRecDepth 100000 in
theorem s_X12_beds (l : Launch) (D : va_G) (t : pq_T) (σ : pq_S) (I : Nat → Nat → Int32) (J : Nat → Nat → Int64) (ri : Nat → Nat → Int32) (rj : Nat → Nat → Int64) (rq : Nat → Nat → Option Nat) (sz : Nat) (tg : Nat → Nat) (hSH : SH σ tg) (hG0 : GT tg I ri) (this : Nat) (a0 : Int32) (a1 : Int32) (hL_this : this ∈ σ.1) (hK_this : σ.2.1 this = 12) : MetI l yX12_beds (wa yX12_beds cX12_beds 3 (some .int)) ({ frames := 2, cells := 0, slots := 0, locals := 43 }) [.ref this, .int a0, .int a1] D t σ (I, J, ri, rj, rq) sz 0 0 (fun (r : Int32) (u : pq_S × pq_M) => ∃ ri' : Nat → Nat → Int32, u = (σ, I, J, ri', rj, rq) ∧ GM [] tg σ I ri I ri' rq) := by
  refine Met.ofW (cc := cX12_beds) (maxL := 3) (ret := (some .int)) (by decide) rfl ?_
  intro p e s m args below meth c s₁ B hml hv
  obtain ⟨rfl, hsz, hP, hK, hD0, hN⟩ := hv
  have hx := B.exec
  have hb := B.bytes
  have hr := B.returns
  have hts := atoms_spec (ws := (wa yX12_beds cX12_beds 3 (some .int))) B.pre
  have hown : s.vm.findClass RX12 = some m.cls := findClass_of_methodNamed B.named
  have hlocks := B.notSynchronized
  subst hsz
  have hD : va_D (pq_B t σ (I, J, ri, rj, rq) s.heap.size) (pq_P t σ (I, J, ri, rj, rq)) := hD0.self
  generalize hAe : pq_B t σ (I, J, ri, rj, rq) s.heap.size = A at hD ⊢
  have hA : ∀ q : Nat, s.heap.size ≤ q → A q := fun q h => by rw [← hAe]; exact Or.inr h
  have hS : va_S A s.heap s.heap [] := va_S.rf
  have hG : GM [] tg σ I ri I ri rq := ⟨hG0, fun _ _ _ => rfl, fun _ _ _ _ _ => rfl, fun _ _ _ _ _ _ => rfl⟩
  have hl := lv_entry ([.ref this, .int a0, .int a1]) (n := 3) (Nat.le_of_ble_eq_true rfl)
  rw [lg_entry_eq]
  generalize (lg_sl ([.ref this, .int a0, .int a1]) ++ List.replicate (3 - (lg_sl ([.ref this, .int a0, .int a1])).length) Slot.unset).toArray = ls at hl ⊢
  have hl : lv_has ls 3 [(0, .ref this), (1, .int a0), (2, .int a1)] := hl
  refine q_gen (fun Q hQ => ?_)
  have go : ∀ (H : Heap) (locs : List Loc) (ls : Array Slot), va_P D vwCl (pq_P t σ (I, J, ri, rj, rq)) H → va_D A (pq_P t σ (I, J, ri, rj, rq)) → va_S A s.heap H locs → lv_has ls 3 [(0, .ref this), (1, .int a0), (2, .int a1)] → W p l e ({ frames := 2, cells := 0, slots := 0, locals := 43 } : Room) s m (List.toArray ([.ref this, .int a0, .int a1] : List Value)) below meth c H locs 0 0 Q (F0 m 0 ls []) := by
    intro H locs ls hP hD hS hl
    refine lv_aload_n hx hb dX12_beds_0 rfl (lv_at hl 0 rfl) ?_
    refine lv_iload_n hx hb dX12_beds_1 rfl (lv_at hl 1 rfl) ?_
    refine pk_i (va_runV (As := [.int a0]) (rest := []) ⟨hx, hb, hml, hown, hts⟩ (s_X12_isCell l D t σ I J ri rj rq H.size tg hSH hG.1 this a0 hL_this hK_this) (cwV 1 hts (tw_V tw_340 tw_341 tw_342 tw_5 tw_343) rfl rfl rfl cv_yX12_isCell_1 ⟨Nat.le_of_ble_eq_true rfl, Nat.le_of_ble_eq_true rfl⟩) ⟨pq_blind, pq_recv hK hP hL_this hK_this (by decide) rfl, pq_pre hK hN hP hD⟩ rfl rfl hl.1 rfl (lv_room (Nat.le_of_ble_eq_true rfl)) dX12_beds_2 ⟨Nat.le_of_ble_eq_true rfl, Nat.le_of_ble_eq_true rfl⟩) hD hS hA (fun x_1 σ1 μ1 H locs hw_2 hP hD hS => ?_)
    obtain ⟨hu_3, hr_5⟩ := hw_2
    obtain ⟨hu_3a, hu_3b⟩ := Prod.mk.inj hu_3
    rw [hu_3a, hu_3b] at hP hD
    have h_6 : rg x_1 0 1 := by rcases hr_5 with ⟨q, -⟩ | ⟨q, -⟩ <;> rw [q] <;> exact ⟨by decide, by decide⟩
    have uh_6 := h_6.1
    have vh_6 := h_6.2
    have K_53 : ∀  (H : Heap) (locs : List Loc) (ls : Array Slot), GM [] tg σ I ri I ri rq → va_P D vwCl (pq_P t σ (I, J, ri, rj, rq)) H → va_D A (pq_P t σ (I, J, ri, rj, rq)) → va_S A s.heap H locs → lv_has ls 3 [] → W p l e ({ frames := 2, cells := 0, slots := 0, locals := 43 } : Room) s m (List.toArray ([.ref this, .int a0, .int a1] : List Value)) below meth c H locs 0 0 Q (F0 m 26 ls []) := by
      intro H locs ls hG hP hD hS hl
      refine lv_iconst (v := (-1)) hx hb dX12_beds_26 (by decide) ?_
      subst hQ
      exact W.iret (v := (-1)) hx hb hr (fun t1 ht hW => ⟨⟨(-1), (σ, I, J, ri, rj, rq), rfl, ⟨ri, rfl, hG⟩, by rw [ht]; exact hP, va_K.moved hW.alike hK, hD⟩, hS.F ht⟩) hS.2.2 dX12_beds_27
    refine lv_if_eq (tgt := 26) hx hb dX12_beds_5 (by decide) (fun c_54 => ?_) (fun c_54 => ?_)
    · have f_55 := (hr_5.resolve_left (fun q => absurd (q.1.symm.trans c_54) (by decide))).2
      have tc_56 : (x_1).toInt = 0 := congrArg Int32.toInt c_54
      have h_57 : rg x_1 0 0 := rg_and h_6 (rg_of_eq c_54 (rg_k (0 : Int32) 0 rfl)) (by decide)
      have uh_57 := h_57.1
      have vh_57 := h_57.2
      exact K_53 _ _ _ hG hP hD hS (lv_sub hl [] rfl)
    · have f_58 := (hr_5.resolve_right (fun q => c_54 q.1)).2
      have uf_58 := f_58.1
      have vf_58 := f_58.2
      have tc_59 : (x_1).toInt ≠ 0 := fun q => c_54 (Int32.toInt_inj.mp q)
      have h_60 : rg x_1 1 1 := rg_ne c_54 h_6 0 rfl (by decide)
      have uh_60 := h_60.1
      have vh_60 := h_60.2
      refine lv_iload_n hx hb dX12_beds_8 rfl (lv_at hl 2 rfl) ?_
      refine lv_iconst (v := 0) hx hb dX12_beds_9 (by decide) ?_
      refine lv_bipush (v := 20) hx hb dX12_beds_10 (by decide) ?_
      refine lv_aload_n hx hb dX12_beds_12 rfl (lv_at hl 0 rfl) ?_
      refine lv_iload_n hx hb dX12_beds_13 rfl (lv_at hl 1 rfl) ?_
      refine lv_bipush (v := 7) hx hb dX12_beds_14 (by decide) ?_
      refine pk_i (va_runV (As := [.int a0, .int 7]) (rest := [.int 20, .int 0, .int a1]) ⟨hx, hb, hml, hown, hts⟩ (s_X12_cellAt_c7 l D t σ I J ri rj rq H.size tg hSH hG.1 this a0 hL_this hK_this (rg_w f_58 (by decide))) (cwV 2 hts (tw_V tw_361 tw_362 tw_363 tw_5 tw_364) rfl rfl rfl cv_yX12_cellAt_2 ⟨Nat.le_of_ble_eq_true rfl, Nat.le_of_ble_eq_true rfl⟩) ⟨pq_blind, pq_recv hK hP hL_this hK_this (by decide) rfl, pq_pre hK hN hP hD⟩ rfl rfl hl.1 rfl (lv_room (Nat.le_of_ble_eq_true rfl)) dX12_beds_16 ⟨Nat.le_of_ble_eq_true rfl, Nat.le_of_ble_eq_true rfl⟩) hD hS hA (fun x_61 σ1 μ1 H locs hw_62 hP hD hS => ?_)
      have hu_63 := hw_62
      obtain ⟨hu_63a, hu_63b⟩ := Prod.mk.inj hu_63
      rw [hu_63a, hu_63b] at hP hD
      refine lv_isub hx hb dX12_beds_19 ?_
      refine lv_topi (fun x_66 ex_66 => ?_)
      refine pk_i (va_runS (As := [.int a1, .int 0, .int x_66]) (rest := []) ⟨hx, hb, hml, hown, hts⟩ (s_X12_isIn l D t σ I J ri rj rq H.size tg hSH hG.1 a1 (0 : Int32) x_66) (va_cwS 3 hts (tw_S tw_235 tw_236 tw_5 tw_237) rfl rfl rfl cd_yX12_isIn_3 ⟨Nat.le_of_ble_eq_true rfl, Nat.le_of_ble_eq_true rfl⟩) ⟨pq_blind, pq_pre hK hN hP hD⟩ rfl rfl hl.1 rfl (lv_room (Nat.le_of_ble_eq_true rfl)) dX12_beds_20 ⟨Nat.le_of_ble_eq_true rfl, Nat.le_of_ble_eq_true rfl⟩) hD hS hA (fun x_67 σ1 μ1 H locs hw_68 hP hD hS => ?_)
      obtain ⟨hu_69, hr_71⟩ := hw_68
      obtain ⟨hu_69a, hu_69b⟩ := Prod.mk.inj hu_69
      rw [hu_69a, hu_69b] at hP hD
      have h_72 : rg x_67 0 1 := by rcases hr_71 with ⟨q, -⟩ | ⟨q, -⟩ <;> rw [q] <;> exact ⟨by decide, by decide⟩
      have uh_72 := h_72.1
      have vh_72 := h_72.2
      refine lv_if_ne (tgt := 28) hx hb dX12_beds_23 (by decide) (fun c_73 => ?_) (fun c_73 => ?_)
      · obtain ⟨f_74, f_75⟩ := (hr_71.resolve_right (fun q => c_73 q.1)).2
        have tc_76 : 0 ≤ (a1).toInt := Int32.le_iff_toInt_le.mp f_74
        have h_77 : rg a1 0 2147483647 := rg_le2 f_74 (rg_k (0 : Int32) 0 rfl) (rg_full _) (by decide)
        have uh_77 := h_77.1
        have vh_77 := h_77.2
        have tc_78 : (a1).toInt ≤ (x_66).toInt := Int32.le_iff_toInt_le.mp f_75
        have h_79 : rg x_66 0 2147483647 := rg_le2 f_75 h_77 (rg_full _) (by decide)
        have uh_79 := h_79.1
        have vh_79 := h_79.2
        have tc_80 : (x_67).toInt ≠ 0 := fun q => c_73 (Int32.toInt_inj.mp q)
        have h_81 : rg x_67 1 1 := rg_ne c_73 h_72 0 rfl (by decide)
        have uh_81 := h_81.1
        have vh_81 := h_81.2
        refine lv_aload_n hx hb dX12_beds_28 rfl (lv_at hl 0 rfl) ?_
        obtain ⟨w_82, hR_w_82, hL_w_82, hK_w_82, hN_w_82, hT_w_82⟩ := sh_a hSH 384 (ci := 12) (kd := 13) (len := 12720) rfl (by decide) hL_this hK_this
        refine pg_f (v := .ref w_82) (C := RX12) (T := TX12) (N := 31) hx hb hts (tw_i inlX12) hown hK hP hL_this hK_this (by decide) rfl 0 (by decide) (hts _ (tw_c tw_176)) (pq_hv rfl hR_w_82) dX12_beds_29 ?_
        refine lv_bipush (v := 100) hx hb dX12_beds_32 (by decide) ?_
        refine lv_bipush (v := 16) hx hb dX12_beds_34 (by decide) ?_
        refine lv_iload_n hx hb dX12_beds_36 rfl (lv_at hl 1 rfl) ?_
        refine lv_imul hx hb dX12_beds_37 ?_
        refine lv_topi (fun x_83 ex_83 => ?_)
        have h_84 : rg x_83 0 624 := rg_of_eq ex_83 (rg_mul (rg_k (16 : Int32) 16 rfl) f_58 (by decide))
        have uh_84 := h_84.1
        have vh_84 := h_84.2
        have tx_83 : (x_83).toInt = 16 * (a0).toInt := by rw [ex_83]; exact i_mul_rg (a2 := 16) (b2 := (a0).toInt) rfl rfl (rg_k (16 : Int32) 16 rfl) f_58 (by decide)
        refine lv_iadd hx hb dX12_beds_38 ?_
        refine lv_topi (fun x_85 ex_85 => ?_)
        have h_86 : rg x_85 100 724 := rg_of_eq ex_85 (rg_add (rg_k (100 : Int32) 100 rfl) h_84 (by decide))
        have uh_86 := h_86.1
        have vh_86 := h_86.2
        have tx_85 : (x_85).toInt = 100 + (x_83).toInt := by rw [ex_85]; exact i_add_rg (a2 := 100) (b2 := (x_83).toInt) rfl rfl (rg_k (100 : Int32) 100 rfl) h_84 (by decide)
        refine lv_bipush (v := 7) hx hb dX12_beds_39 (by decide) ?_
        refine lv_iadd hx hb dX12_beds_41 ?_
        refine lv_topi (fun x_87 ex_87 => ?_)
        have h_88 : rg x_87 107 731 := rg_of_eq ex_87 (rg_add h_86 (rg_k (7 : Int32) 7 rfl) (by decide))
        have uh_88 := h_88.1
        have vh_88 := h_88.2
        have tx_87 : (x_87).toInt = (x_85).toInt + 7 := by rw [ex_87]; exact i_add_rg (a2 := (x_85).toInt) (b2 := 7) rfl rfl h_86 (rg_k (7 : Int32) 7 rfl) (by decide)
        refine lv_dup2_11 hx hb dX12_beds_42 rfl rfl ?_
        refine pl_i hx hb hK hP hL_w_82 hK_w_82 hN_w_82 (rg_in h_88 (by decide)) dX12_beds_43 ?_
        refine lv_topi (fun x_89 ex_89 => ?_)
        refine lv_iload_n hx hb dX12_beds_44 rfl (lv_at hl 2 rfl) ?_
        refine lv_iadd hx hb dX12_beds_45 ?_
        refine lv_topi (fun x_90 ex_90 => ?_)
        refine pt_i hx hb hK hP hD hS hL_w_82 hK_w_82 hN_w_82 (rg_in h_88 (by decide)) dX12_beds_46 (fun r_91 H locs er_91 hP hD hS => ?_)
        have hG := GM.wz hG hT_w_82 (by decide) er_91 (zn_CELL (c := a0.toNatClampNeg) (k := 7) (by have z_i := clampE x_87; have z_0 := clampE a0; omega) (rg_cl1 f_58 (by decide)) (by decide)) rfl (rg_w (rg_full _) (by decide)) (by decide)
        refine lv_aload_n hx hb dX12_beds_47 rfl (lv_at hl 0 rfl) ?_
        refine lv_iload_n hx hb dX12_beds_48 rfl (lv_at hl 1 rfl) ?_
        refine lv_bipush (v := 7) hx hb dX12_beds_49 (by decide) ?_
        refine pk_i (va_runV (As := [.int a0, .int 7]) (rest := []) ⟨hx, hb, hml, hown, hts⟩ (s_X12_cellAt_c7 l D t σ I J r_91 rj rq H.size tg hSH hG.1 this a0 hL_this hK_this (rg_w f_58 (by decide))) (cwV 2 hts (tw_V tw_361 tw_362 tw_363 tw_5 tw_364) rfl rfl rfl cv_yX12_cellAt_2 ⟨Nat.le_of_ble_eq_true rfl, Nat.le_of_ble_eq_true rfl⟩) ⟨pq_blind, pq_recv hK hP hL_this hK_this (by decide) rfl, pq_pre hK hN hP hD⟩ rfl rfl hl.1 rfl (lv_room (Nat.le_of_ble_eq_true rfl)) dX12_beds_51 ⟨Nat.le_of_ble_eq_true rfl, Nat.le_of_ble_eq_true rfl⟩) hD hS hA (fun x_92 σ1 μ1 H locs hw_93 hP hD hS => ?_)
        have hu_94 := hw_93
        obtain ⟨hu_94a, hu_94b⟩ := Prod.mk.inj hu_94
        rw [hu_94a, hu_94b] at hP hD
        subst hQ
        exact W.iret (v := x_92) hx hb hr (fun t1 ht hW => ⟨⟨x_92, (σ, I, J, r_91, rj, rq), rfl, ⟨r_91, rfl, hG⟩, by rw [ht]; exact hP, va_K.moved hW.alike hK, hD⟩, hS.F ht⟩) hS.2.2 dX12_beds_54
      · have f_97 := (hr_71.resolve_left (fun q => absurd (q.1.symm.trans c_73) (by decide))).2
        have tc_98 : (x_67).toInt = 0 := congrArg Int32.toInt c_73
        have h_99 : rg x_67 0 0 := rg_and h_72 (rg_of_eq c_73 (rg_k (0 : Int32) 0 rfl)) (by decide)
        have uh_99 := h_99.1
        have vh_99 := h_99.2
        exact K_53 _ _ _ hG hP hD hS (lv_sub hl [] rfl)
  exact go _ _ _ hP hD hS hl

set_option maxHeartbeats 4000000 in
set_option maxRecDepth 100000 in
theorem s_X12_personAt_c3 (l : Launch) (D : va_G) (t : pq_T) (σ : pq_S) (I : Nat → Nat → Int32) (J : Nat → Nat → Int64) (ri : Nat → Nat → Int32) (rj : Nat → Nat → Int64) (rq : Nat → Nat → Option Nat) (sz : Nat) (tg : Nat → Nat) (hSH : SH σ tg) (hG0 : GT tg I ri) (this : Nat) (a0 : Int32) (hL_this : this ∈ σ.1) (hK_this : σ.2.1 this = 12) (h_a0 : rg a0 0 39) (this_a : Nat) (hR_this_a : σ.2.2.1 384 this = some this_a) (hL_this_a : this_a ∈ σ.1) (hK_this_a : σ.2.1 this_a = 13) (hN_this_a : σ.2.2.2 this_a = 12720) (hT_this_a : tg this_a = 384) : MetI l yX12_personAt (wa yX12_personAt cX12_personAt 3 (some .int)) ({ frames := 0, cells := 0, slots := 0, locals := 0 }) [.ref this, .int a0, .int 3] D t σ (I, J, ri, rj, rq) sz 0 0 (fun (r : Int32) (u : pq_S × pq_M) => u = (σ, I, J, ri, rj, rq) ∧ (r = ri this_a (743 + 12 * a0.toNatClampNeg)) ∧ (r.toInt < 5 ∨ 100 ≤ r.toInt) ∧ rg r 0 300) := by
  refine Met.ofW (cc := cX12_personAt) (maxL := 3) (ret := (some .int)) (by decide) rfl ?_
  intro p e s m args below meth c s₁ B hml hv
  obtain ⟨rfl, hsz, hP, hK, hD0, hN⟩ := hv
  have hx := B.exec
  have hb := B.bytes
  have hr := B.returns
  have hts := atoms_spec (ws := (wa yX12_personAt cX12_personAt 3 (some .int))) B.pre
  have hown : s.vm.findClass RX12 = some m.cls := findClass_of_methodNamed B.named
  have hlocks := B.notSynchronized
  subst hsz
  have hD : va_D (pq_B t σ (I, J, ri, rj, rq) s.heap.size) (pq_P t σ (I, J, ri, rj, rq)) := hD0.self
  generalize hAe : pq_B t σ (I, J, ri, rj, rq) s.heap.size = A at hD ⊢
  have hA : ∀ q : Nat, s.heap.size ≤ q → A q := fun q h => by rw [← hAe]; exact Or.inr h
  have hS : va_S A s.heap s.heap [] := va_S.rf
  have hG : GM [] tg σ I ri I ri rq := ⟨hG0, fun _ _ _ => rfl, fun _ _ _ _ _ => rfl, fun _ _ _ _ _ _ => rfl⟩
  have hl := lv_entry ([.ref this, .int a0, .int 3]) (n := 3) (Nat.le_of_ble_eq_true rfl)
  rw [lg_entry_eq]
  generalize (lg_sl ([.ref this, .int a0, .int 3]) ++ List.replicate (3 - (lg_sl ([.ref this, .int a0, .int 3])).length) Slot.unset).toArray = ls at hl ⊢
  have hl : lv_has ls 3 [(0, .ref this), (1, .int a0), (2, .int 3)] := hl
  refine q_gen (fun Q hQ => ?_)
  have go : ∀ (H : Heap) (locs : List Loc) (ls : Array Slot), va_P D vwCl (pq_P t σ (I, J, ri, rj, rq)) H → va_D A (pq_P t σ (I, J, ri, rj, rq)) → va_S A s.heap H locs → lv_has ls 3 [(0, .ref this), (1, .int a0), (2, .int 3)] → W p l e ({ frames := 0, cells := 0, slots := 0, locals := 0 } : Room) s m (List.toArray ([.ref this, .int a0, .int 3] : List Value)) below meth c H locs 0 0 Q (F0 m 0 ls []) := by
    intro H locs ls hP hD hS hl
    refine lv_aload_n hx hb dX12_personAt_0 rfl (lv_at hl 0 rfl) ?_
    refine pg_f (v := .ref this_a) (C := RX12) (T := TX12) (N := 31) hx hb hts (tw_i inlX12) hown hK hP hL_this hK_this (by decide) rfl 0 (by decide) (hts _ (tw_c tw_176)) (pq_hv rfl hR_this_a) dX12_personAt_1 ?_
    refine lv_sipush (v := 740) hx hb dX12_personAt_4 (by decide) ?_
    refine lv_bipush (v := 12) hx hb dX12_personAt_7 (by decide) ?_
    refine lv_iload_n hx hb dX12_personAt_9 rfl (lv_at hl 1 rfl) ?_
    refine lv_imul hx hb dX12_personAt_10 ?_
    refine lv_topi (fun x_1 ex_1 => ?_)
    have h_2 : rg x_1 0 468 := rg_of_eq ex_1 (rg_mul (rg_k (12 : Int32) 12 rfl) h_a0 (by decide))
    have uh_2 := h_2.1
    have vh_2 := h_2.2
    have tx_1 : (x_1).toInt = 12 * (a0).toInt := by rw [ex_1]; exact i_mul_rg (a2 := 12) (b2 := (a0).toInt) rfl rfl (rg_k (12 : Int32) 12 rfl) h_a0 (by decide)
    refine lv_iadd hx hb dX12_personAt_11 ?_
    refine lv_topi (fun x_3 ex_3 => ?_)
    have h_4 : rg x_3 740 1208 := rg_of_eq ex_3 (rg_add (rg_k (740 : Int32) 740 rfl) h_2 (by decide))
    have uh_4 := h_4.1
    have vh_4 := h_4.2
    have tx_3 : (x_3).toInt = 740 + (x_1).toInt := by rw [ex_3]; exact i_add_rg (a2 := 740) (b2 := (x_1).toInt) rfl rfl (rg_k (740 : Int32) 740 rfl) h_2 (by decide)
    refine lv_iload_n hx hb dX12_personAt_12 rfl (lv_at hl 2 rfl) ?_
    refine lv_iadd hx hb dX12_personAt_13 ?_
    refine lv_topi (fun x_5 ex_5 => ?_)
    have h_6 : rg x_5 743 1211 := rg_of_eq ex_5 (rg_add h_4 (rg_k (3 : Int32) 3 rfl) (by decide))
    have uh_6 := h_6.1
    have vh_6 := h_6.2
    have tx_5 : (x_5).toInt = (x_3).toInt + 3 := by rw [ex_5]; exact i_add_rg (a2 := (x_3).toInt) (b2 := 3) rfl rfl h_4 (rg_k (3 : Int32) 3 rfl) (by decide)
    refine pl_i hx hb hK hP hL_this_a hK_this_a hN_this_a (rg_in h_6 (by decide)) dX12_personAt_14 ?_
    refine lv_topi (fun x_7 ex_7 => ?_)
    have h_8 : rg x_7 0 300 := rg_of_eq ex_7 (GM.z hG (by rw [hT_this_a]; decide) (zn_PERSON (c := a0.toNatClampNeg) (k := 3) (by have z_i := clampE x_5; have z_0 := clampE a0; omega) (rg_cl1 h_a0 (by decide)) (by decide)) rfl)
    have uh_8 := h_8.1
    have vh_8 := h_8.2
    subst hQ
    exact W.iret (v := x_7) hx hb hr (fun t1 ht hW => ⟨⟨x_7, (σ, I, J, ri, rj, rq), rfl, ⟨rfl, (show x_7 = ri this_a (743 + 12 * a0.toNatClampNeg) from ex_7.trans (congrArg (ri this_a) (by have z0 := clampE a0; have z1 := clampE x_5; omega))), (by rw [ex_7]; exact GM.hole hG (by rw [hT_this_a]; decide) (zn_PERSON (c := a0.toNatClampNeg) (k := 3) (by have z_i := clampE x_5; have z_0 := clampE a0; omega) (rg_cl1 h_a0 (by decide)) (by decide))), (rg_w h_8 (by decide))⟩, by rw [ht]; exact hP, va_K.moved hW.alike hK, hD⟩, hS.F ht⟩) hS.2.2 dX12_personAt_15
  exact go _ _ _ hP hD hS hl

set_option maxHeartbeats 4000000 in
set_option maxRecDepth 100000 in
theorem s_X12_manyAt (l : Launch) (D : va_G) (t : pq_T) (σ : pq_S) (I : Nat → Nat → Int32) (J : Nat → Nat → Int64) (ri : Nat → Nat → Int32) (rj : Nat → Nat → Int64) (rq : Nat → Nat → Option Nat) (sz : Nat) (tg : Nat → Nat) (hSH : SH σ tg) (hG0 : GT tg I ri) (this : Nat) (a0 : Int32) (hL_this : this ∈ σ.1) (hK_this : σ.2.1 this = 12) : MetI l yX12_manyAt (wa yX12_manyAt cX12_manyAt 4 (some .int)) ({ frames := 1, cells := 0, slots := 0, locals := 22 }) [.ref this, .int a0] D t σ (I, J, ri, rj, rq) sz 0 0 (fun (r : Int32) (u : pq_S × pq_M) => u = (σ, I, J, ri, rj, rq)) := by
  refine Met.ofW (cc := cX12_manyAt) (maxL := 4) (ret := (some .int)) (by decide) rfl ?_
  intro p e s m args below meth c s₁ B hml hv
  obtain ⟨rfl, hsz, hP, hK, hD0, hN⟩ := hv
  have hx := B.exec
  have hb := B.bytes
  have hr := B.returns
  have hts := atoms_spec (ws := (wa yX12_manyAt cX12_manyAt 4 (some .int))) B.pre
  have hown : s.vm.findClass RX12 = some m.cls := findClass_of_methodNamed B.named
  have hlocks := B.notSynchronized
  subst hsz
  have hD : va_D (pq_B t σ (I, J, ri, rj, rq) s.heap.size) (pq_P t σ (I, J, ri, rj, rq)) := hD0.self
  generalize hAe : pq_B t σ (I, J, ri, rj, rq) s.heap.size = A at hD ⊢
  have hA : ∀ q : Nat, s.heap.size ≤ q → A q := fun q h => by rw [← hAe]; exact Or.inr h
  have hS : va_S A s.heap s.heap [] := va_S.rf
  have hG : GM [] tg σ I ri I ri rq := ⟨hG0, fun _ _ _ => rfl, fun _ _ _ _ _ => rfl, fun _ _ _ _ _ _ => rfl⟩
  have hl := lv_entry ([.ref this, .int a0]) (n := 4) (Nat.le_of_ble_eq_true rfl)
  rw [lg_entry_eq]
  generalize (lg_sl ([.ref this, .int a0]) ++ List.replicate (4 - (lg_sl ([.ref this, .int a0])).length) Slot.unset).toArray = ls at hl ⊢
  have hl : lv_has ls 4 [(0, .ref this), (1, .int a0)] := hl
  refine q_gen (fun Q hQ => ?_)
  have go : ∀ (H : Heap) (locs : List Loc) (ls : Array Slot), va_P D vwCl (pq_P t σ (I, J, ri, rj, rq)) H → va_D A (pq_P t σ (I, J, ri, rj, rq)) → va_S A s.heap H locs → lv_has ls 4 [(0, .ref this), (1, .int a0)] → W p l e ({ frames := 1, cells := 0, slots := 0, locals := 22 } : Room) s m (List.toArray ([.ref this, .int a0] : List Value)) below meth c H locs 0 0 Q (F0 m 0 ls []) := by
    intro H locs ls hP hD hS hl
    refine lv_iconst (v := 0) hx hb dX12_manyAt_0 (by decide) ?_
    refine lv_istore_n (lv' := [(2, .int 0), (0, .ref this), (1, .int a0)]) hx hb dX12_manyAt_1 rfl hl (by decide) rfl (fun ls hl => ?_)
    refine lv_iconst (v := 0) hx hb dX12_manyAt_2 (by decide) ?_
    refine lv_istore_n (lv' := [(3, .int 0), (2, .int 0), (0, .ref this), (1, .int a0)]) hx hb dX12_manyAt_3 rfl hl (by decide) rfl (fun ls hl => ?_)
    have L_788 : ∀ (n_787 : Nat) (x_756 : Int32) (x_757 : Int32) (H : Heap) (locs : List Loc) (ls : Array Slot), rg x_757 0 40 → (40 - (x_757).toInt).toNat < n_787 → GM [] tg σ I ri I ri rq → va_P D vwCl (pq_P t σ (I, J, ri, rj, rq)) H → va_D A (pq_P t σ (I, J, ri, rj, rq)) → va_S A s.heap H locs → lv_has ls 4 [(0, .ref this), (1, .int a0), (2, .int x_756), (3, .int x_757)] → W p l e ({ frames := 1, cells := 0, slots := 0, locals := 22 } : Room) s m (List.toArray ([.ref this, .int a0] : List Value)) below meth c H locs 0 0 Q (F0 m 4 ls []) := by
      intro n_787
      induction n_787 with
      | zero => intro x_756 x_757 H locs ls h_791 hm_786 hG hP hD hS hl; exact absurd hm_786 (Nat.not_lt_zero _)
      | succ n_787 ih_789 =>
        intro x_756 x_757 H locs ls h_791 hm_786 hG hP hD hS hl
        have uh_791 := h_791.1
        have vh_791 := h_791.2
        refine lv_iload_n hx hb dX12_manyAt_4 rfl (lv_at hl 3 rfl) ?_
        refine lv_aload_n hx hb dX12_manyAt_5 rfl (lv_at hl 0 rfl) ?_
        obtain ⟨w_792, hR_w_792, hL_w_792, hK_w_792, hN_w_792, hT_w_792⟩ := sh_a hSH 384 (ci := 12) (kd := 13) (len := 12720) rfl (by decide) hL_this hK_this
        refine pg_f (v := .ref w_792) (C := RX12) (T := TX12) (N := 31) hx hb hts (tw_i inlX12) hown hK hP hL_this hK_this (by decide) rfl 0 (by decide) (hts _ (tw_c tw_176)) (pq_hv rfl hR_w_792) dX12_manyAt_6 ?_
        refine lv_iconst (v := 5) hx hb dX12_manyAt_9 (by decide) ?_
        refine pl_i hx hb hK hP hL_w_792 hK_w_792 hN_w_792 (vp_in_iff.mpr (by decide)) dX12_manyAt_10 ?_
        refine lv_tov (ri w_792 5) rfl ?_
        have h_793 : rg (ri w_792 5) 0 40 := GM.z0 hG0 (by rw [hT_w_792]; decide) (i := 5) (k := 5) (by decide) rfl
        have uh_793 := h_793.1
        have vh_793 := h_793.2
        refine lv_icmp_ge (tgt := 38) hx hb dX12_manyAt_11 (by decide) (fun c_794 => ?_) (fun c_794 => ?_)
        · have tc_795 : (ri w_792 5).toInt ≤ (x_757).toInt := Int32.le_iff_toInt_le.mp c_794
          refine lv_iload_n hx hb dX12_manyAt_38 rfl (lv_at hl 2 rfl) ?_
          subst hQ
          exact W.iret (v := x_756) hx hb hr (fun t1 ht hW => ⟨⟨x_756, (σ, I, J, ri, rj, rq), rfl, rfl, by rw [ht]; exact hP, va_K.moved hW.alike hK, hD⟩, hS.F ht⟩) hS.2.2 dX12_manyAt_39
        · have tc_796 : (x_757).toInt < (ri w_792 5).toInt := Int32.lt_iff_toInt_lt.mp (nle c_794)
          have h_797 : rg x_757 0 39 := rg_lt1 (nle c_794) h_791 h_793 (by decide)
          have uh_797 := h_797.1
          have vh_797 := h_797.2
          have h_798 : rg (ri w_792 5) 1 40 := rg_lt2 (nle c_794) h_791 h_793 (by decide)
          have uh_798 := h_798.1
          have vh_798 := h_798.2
          refine lv_iload_n hx hb dX12_manyAt_14 rfl (lv_at hl 2 rfl) ?_
          refine lv_aload_n hx hb dX12_manyAt_15 rfl (lv_at hl 0 rfl) ?_
          refine lv_iload_n hx hb dX12_manyAt_16 rfl (lv_at hl 3 rfl) ?_
          refine lv_iconst (v := 3) hx hb dX12_manyAt_17 (by decide) ?_
          refine pk_i (va_runV (As := [.int x_757, .int 3]) (rest := [.int x_756]) ⟨hx, hb, hml, hown, hts⟩ (s_X12_personAt_c3 l D t σ I J ri rj rq H.size tg hSH hG.1 this x_757 hL_this hK_this (rg_w h_797 (by decide)) w_792 hR_w_792 hL_w_792 hK_w_792 hN_w_792 hT_w_792) (cwV 2 hts (tw_V tw_437 tw_438 tw_439 tw_5 tw_440) rfl rfl rfl cv_yX12_personAt_2 ⟨Nat.le_of_ble_eq_true rfl, Nat.le_of_ble_eq_true rfl⟩) ⟨pq_blind, pq_recv hK hP hL_this hK_this (by decide) rfl, pq_pre hK hN hP hD⟩ rfl rfl hl.1 rfl (lv_room (Nat.le_of_ble_eq_true rfl)) dX12_manyAt_18 ⟨Nat.le_of_ble_eq_true rfl, Nat.le_of_ble_eq_true rfl⟩) hD hS hA (fun x_799 σ1 μ1 H locs hw_800 hP hD hS => ?_)
          obtain ⟨hu_801, hp_804, hp_805, hr_803⟩ := hw_800
          obtain ⟨hu_801a, hu_801b⟩ := Prod.mk.inj hu_801
          rw [hu_801a, hu_801b] at hP hD
          have tt_806 := hp_805
          refine lv_iload_n hx hb dX12_manyAt_21 rfl (lv_at hl 1 rfl) ?_
          have K_819 : ∀  (H : Heap) (locs : List Loc) (ls : Array Slot), GM [] tg σ I ri I ri rq → va_P D vwCl (pq_P t σ (I, J, ri, rj, rq)) H → va_D A (pq_P t σ (I, J, ri, rj, rq)) → va_S A s.heap H locs → lv_has ls 4 [(0, .ref this), (1, .int a0), (3, .int x_757)] → W p l e ({ frames := 1, cells := 0, slots := 0, locals := 22 } : Room) s m (List.toArray ([.ref this, .int a0] : List Value)) below meth c H locs 0 0 Q (F0 m 30 ls [.int 0, .int x_756]) := by
            intro H locs ls hG hP hD hS hl
            refine lv_iadd hx hb dX12_manyAt_30 ?_
            refine lv_topi (fun x_820 ex_820 => ?_)
            have h_821 : rg x_820 (-2147483648) 2147483647 := rg_of_eq ex_820 (rg_add (rg_full _) (rg_k (0 : Int32) 0 rfl) (by decide))
            have uh_821 := h_821.1
            have vh_821 := h_821.2
            have tx_820 : (x_820).toInt = (x_756).toInt + 0 := by rw [ex_820]; exact i_add_rg (a2 := (x_756).toInt) (b2 := 0) rfl rfl (rg_full _) (rg_k (0 : Int32) 0 rfl) (by decide)
            refine lv_istore_n (lv' := [(2, .int x_820), (0, .ref this), (1, .int a0), (3, .int x_757)]) hx hb dX12_manyAt_31 rfl hl (by decide) rfl (fun ls hl => ?_)
            obtain ⟨x_822, ex_822⟩ : ∃ y : Int32, y = x_757 + Int32.ofInt 1 := ⟨_, rfl⟩
            have h_823 : rg x_822 1 40 := rg_of_eq ex_822 (rg_add h_797 (rg_k (Int32.ofInt 1) 1 rfl) (by decide))
            have uh_823 := h_823.1
            have vh_823 := h_823.2
            have tx_822 : (x_822).toInt = (x_757).toInt + 1 := by rw [ex_822]; exact i_add_rg (a2 := (x_757).toInt) (b2 := 1) rfl rfl h_797 (rg_k (Int32.ofInt 1) 1 rfl) (by decide)
            refine lv_iinc (v := x_822) (lv' := [(3, .int x_822), (2, .int x_820), (0, .ref this), (1, .int a0)]) hx hb dX12_manyAt_32 hl (k := 3) rfl ex_822.symm (by decide) rfl (fun ls hl => ?_)
            refine lv_goto (tgt := 4) hx hb dX12_manyAt_35 (by decide) ?_
            exact ih_789 x_820 x_822 _ _ _ (rg_w h_823 (by decide)) (ms_up 1 hm_786 ex_822 rfl (by decide) h_797 (by decide) (by decide)) hG hP hD hS (lv_sub hl [2, 3, 1, 0] rfl)
          have K_824 : ∀  (H : Heap) (locs : List Loc) (ls : Array Slot), rg (a0) 0 300 → GM [] tg σ I ri I ri rq → va_P D vwCl (pq_P t σ (I, J, ri, rj, rq)) H → va_D A (pq_P t σ (I, J, ri, rj, rq)) → va_S A s.heap H locs → lv_has ls 4 [(0, .ref this), (1, .int a0), (3, .int x_757)] → W p l e ({ frames := 1, cells := 0, slots := 0, locals := 22 } : Room) s m (List.toArray ([.ref this, .int a0] : List Value)) below meth c H locs 0 0 Q (F0 m 30 ls [.int 1, .int x_756]) := by
            intro H locs ls h_826 hG hP hD hS hl
            have uh_826 := h_826.1
            have vh_826 := h_826.2
            refine lv_iadd hx hb dX12_manyAt_30 ?_
            refine lv_topi (fun x_827 ex_827 => ?_)
            refine lv_istore_n (lv' := [(2, .int x_827), (0, .ref this), (1, .int a0), (3, .int x_757)]) hx hb dX12_manyAt_31 rfl hl (by decide) rfl (fun ls hl => ?_)
            obtain ⟨x_828, ex_828⟩ : ∃ y : Int32, y = x_757 + Int32.ofInt 1 := ⟨_, rfl⟩
            have h_829 : rg x_828 1 40 := rg_of_eq ex_828 (rg_add h_797 (rg_k (Int32.ofInt 1) 1 rfl) (by decide))
            have uh_829 := h_829.1
            have vh_829 := h_829.2
            have tx_828 : (x_828).toInt = (x_757).toInt + 1 := by rw [ex_828]; exact i_add_rg (a2 := (x_757).toInt) (b2 := 1) rfl rfl h_797 (rg_k (Int32.ofInt 1) 1 rfl) (by decide)
            refine lv_iinc (v := x_828) (lv' := [(3, .int x_828), (2, .int x_827), (0, .ref this), (1, .int a0)]) hx hb dX12_manyAt_32 hl (k := 3) rfl ex_828.symm (by decide) rfl (fun ls hl => ?_)
            refine lv_goto (tgt := 4) hx hb dX12_manyAt_35 (by decide) ?_
            exact ih_789 x_827 x_828 _ _ _ (rg_w h_829 (by decide)) (ms_up 1 hm_786 ex_828 rfl (by decide) h_797 (by decide) (by decide)) hG hP hD hS (lv_sub hl [2, 3, 1, 0] rfl)
          refine lv_icmp_ne (tgt := 29) hx hb dX12_manyAt_22 (by decide) (fun c_830 => ?_) (fun c_830 => ?_)
          · have tc_831 : (x_799).toInt ≠ (a0).toInt := fun q => c_830 (Int32.toInt_inj.mp q)
            refine lv_iconst (v := 0) hx hb dX12_manyAt_29 (by decide) ?_
            exact K_819 _ _ _ hG hP hD hS (lv_sub hl [0, 1, 3] rfl)
          · have tc_832 : (x_799).toInt = (a0).toInt := congrArg Int32.toInt c_830
            have h_833 : rg a0 0 300 := rg_and (rg_full _) (rg_of_eq c_830.symm hr_803) (by decide)
            have uh_833 := h_833.1
            have vh_833 := h_833.2
            refine lv_iconst (v := 1) hx hb dX12_manyAt_25 (by decide) ?_
            refine lv_goto (tgt := 30) hx hb dX12_manyAt_26 (by decide) ?_
            exact K_824 _ _ _ (rg_w h_833 (by decide)) hG hP hD hS (lv_sub hl [0, 1, 3] rfl)
    exact L_788 _ (0 : Int32) (0 : Int32) _ _ _ (rg_w (rg_k (0 : Int32) 0 rfl) (by decide)) (Nat.lt_succ_self _) hG hP hD hS (lv_sub hl [2, 3, 1, 0] rfl)
  exact go _ _ _ hP hD hS hl

set_option maxHeartbeats 4000000 in
set_option maxRecDepth 100000 in
theorem s_X12_isLot (l : Launch) (D : va_G) (t : pq_T) (σ : pq_S) (I : Nat → Nat → Int32) (J : Nat → Nat → Int64) (ri : Nat → Nat → Int32) (rj : Nat → Nat → Int64) (rq : Nat → Nat → Option Nat) (sz : Nat) (tg : Nat → Nat) (hSH : SH σ tg) (hG0 : GT tg I ri) (this : Nat) (a0 : Int32) (hL_this : this ∈ σ.1) (hK_this : σ.2.1 this = 12) : MetI l yX12_isLot (wa yX12_isLot cX12_isLot 2 (some .boolean)) ({ frames := 1, cells := 0, slots := 0, locals := 22 }) [.ref this, .int a0] D t σ (I, J, ri, rj, rq) sz 0 0 (fun (r : Int32) (u : pq_S × pq_M) => u = (σ, I, J, ri, rj, rq) ∧ ((r = 1 ∧ rg a0 100 104) ∨ (r = 0 ∧ True))) := by
  refine Met.ofW (cc := cX12_isLot) (maxL := 2) (ret := (some .boolean)) (by decide) rfl ?_
  intro p e s m args below meth c s₁ B hml hv
  obtain ⟨rfl, hsz, hP, hK, hD0, hN⟩ := hv
  have hx := B.exec
  have hb := B.bytes
  have hr := B.returns
  have hts := atoms_spec (ws := (wa yX12_isLot cX12_isLot 2 (some .boolean))) B.pre
  have hown : s.vm.findClass RX12 = some m.cls := findClass_of_methodNamed B.named
  have hlocks := B.notSynchronized
  subst hsz
  have hD : va_D (pq_B t σ (I, J, ri, rj, rq) s.heap.size) (pq_P t σ (I, J, ri, rj, rq)) := hD0.self
  generalize hAe : pq_B t σ (I, J, ri, rj, rq) s.heap.size = A at hD ⊢
  have hA : ∀ q : Nat, s.heap.size ≤ q → A q := fun q h => by rw [← hAe]; exact Or.inr h
  have hS : va_S A s.heap s.heap [] := va_S.rf
  have hG : GM [] tg σ I ri I ri rq := ⟨hG0, fun _ _ _ => rfl, fun _ _ _ _ _ => rfl, fun _ _ _ _ _ _ => rfl⟩
  have hl := lv_entry ([.ref this, .int a0]) (n := 2) (Nat.le_of_ble_eq_true rfl)
  rw [lg_entry_eq]
  generalize (lg_sl ([.ref this, .int a0]) ++ List.replicate (2 - (lg_sl ([.ref this, .int a0])).length) Slot.unset).toArray = ls at hl ⊢
  have hl : lv_has ls 2 [(0, .ref this), (1, .int a0)] := hl
  refine q_gen (fun Q hQ => ?_)
  have go : ∀ (H : Heap) (locs : List Loc) (ls : Array Slot), va_P D vwCl (pq_P t σ (I, J, ri, rj, rq)) H → va_D A (pq_P t σ (I, J, ri, rj, rq)) → va_S A s.heap H locs → lv_has ls 2 [(0, .ref this), (1, .int a0)] → W p l e ({ frames := 1, cells := 0, slots := 0, locals := 22 } : Room) s m (List.toArray ([.ref this, .int a0] : List Value)) below meth c H locs 0 0 Q (F0 m 0 ls []) := by
    intro H locs ls hP hD hS hl
    refine lv_iload_n hx hb dX12_isLot_0 rfl (lv_at hl 1 rfl) ?_
    refine lv_bipush (v := 100) hx hb dX12_isLot_1 (by decide) ?_
    refine lv_bipush (v := 100) hx hb dX12_isLot_3 (by decide) ?_
    refine lv_aload_n hx hb dX12_isLot_5 rfl (lv_at hl 0 rfl) ?_
    obtain ⟨w_1, hR_w_1, hL_w_1, hK_w_1, hN_w_1, hT_w_1⟩ := sh_a hSH 384 (ci := 12) (kd := 13) (len := 12720) rfl (by decide) hL_this hK_this
    refine pg_f (v := .ref w_1) (C := RX12) (T := TX12) (N := 31) hx hb hts (tw_i inlX12) hown hK hP hL_this hK_this (by decide) rfl 0 (by decide) (hts _ (tw_c tw_176)) (pq_hv rfl hR_w_1) dX12_isLot_6 ?_
    refine lv_iconst (v := 4) hx hb dX12_isLot_9 (by decide) ?_
    refine pl_i hx hb hK hP hL_w_1 hK_w_1 hN_w_1 (vp_in_iff.mpr (by decide)) dX12_isLot_10 ?_
    refine lv_tov (ri w_1 4) rfl ?_
    have h_2 : rg (ri w_1 4) 0 5 := GM.z0 hG0 (by rw [hT_w_1]; decide) (i := 4) (k := 4) (by decide) rfl
    have uh_2 := h_2.1
    have vh_2 := h_2.2
    refine lv_iadd hx hb dX12_isLot_11 ?_
    refine lv_topi (fun x_3 ex_3 => ?_)
    have h_4 : rg x_3 100 105 := rg_of_eq ex_3 (rg_add (rg_k (100 : Int32) 100 rfl) h_2 (by decide))
    have uh_4 := h_4.1
    have vh_4 := h_4.2
    have tx_3 : (x_3).toInt = 100 + (ri w_1 4).toInt := by rw [ex_3]; exact i_add_rg (a2 := 100) (b2 := (ri w_1 4).toInt) rfl rfl (rg_k (100 : Int32) 100 rfl) h_2 (by decide)
    refine lv_iconst (v := 1) hx hb dX12_isLot_12 (by decide) ?_
    refine lv_isub hx hb dX12_isLot_13 ?_
    refine lv_topi (fun x_5 ex_5 => ?_)
    have h_6 : rg x_5 99 104 := rg_of_eq ex_5 (rg_sub h_4 (rg_k (1 : Int32) 1 rfl) (by decide))
    have uh_6 := h_6.1
    have vh_6 := h_6.2
    have tx_5 : (x_5).toInt = (x_3).toInt - 1 := by rw [ex_5]; exact i_sub_rg (a2 := (x_3).toInt) (b2 := 1) rfl rfl h_4 (rg_k (1 : Int32) 1 rfl) (by decide)
    refine pk_i (va_runS (As := [.int a0, .int 100, .int x_5]) (rest := []) ⟨hx, hb, hml, hown, hts⟩ (s_X12_isIn l D t σ I J ri rj rq H.size tg hSH hG.1 a0 (100 : Int32) x_5) (va_cwS 3 hts (tw_S tw_235 tw_236 tw_5 tw_237) rfl rfl rfl cd_yX12_isIn_3 ⟨Nat.le_of_ble_eq_true rfl, Nat.le_of_ble_eq_true rfl⟩) ⟨pq_blind, pq_pre hK hN hP hD⟩ rfl rfl hl.1 rfl (lv_room (Nat.le_of_ble_eq_true rfl)) dX12_isLot_14 ⟨Nat.le_of_ble_eq_true rfl, Nat.le_of_ble_eq_true rfl⟩) hD hS hA (fun x_7 σ1 μ1 H locs hw_8 hP hD hS => ?_)
    obtain ⟨hu_9, hr_11⟩ := hw_8
    obtain ⟨hu_9a, hu_9b⟩ := Prod.mk.inj hu_9
    rw [hu_9a, hu_9b] at hP hD
    have h_12 : rg x_7 0 1 := by rcases hr_11 with ⟨q, -⟩ | ⟨q, -⟩ <;> rw [q] <;> exact ⟨by decide, by decide⟩
    have uh_12 := h_12.1
    have vh_12 := h_12.2
    rcases hr_11 with ⟨e_16, f_13, f_14⟩ | ⟨e_16, f_15⟩
    · refine lv_tov 1 e_16 ?_
      have tc_17 : 100 ≤ (a0).toInt := Int32.le_iff_toInt_le.mp f_13
      have h_18 : rg a0 100 2147483647 := rg_le2 f_13 (rg_k (100 : Int32) 100 rfl) (rg_full _) (by decide)
      have uh_18 := h_18.1
      have vh_18 := h_18.2
      have tc_19 : (a0).toInt ≤ (x_5).toInt := Int32.le_iff_toInt_le.mp f_14
      have h_20 : rg a0 100 104 := rg_le1 f_14 h_18 h_6 (by decide)
      have uh_20 := h_20.1
      have vh_20 := h_20.2
      have h_21 : rg x_5 100 104 := rg_le2 f_14 h_18 h_6 (by decide)
      have uh_21 := h_21.1
      have vh_21 := h_21.2
      subst hQ
      exact W.zret (v := 1) hx hb hr (by decide) (fun t1 ht hW => ⟨⟨1, (σ, I, J, ri, rj, rq), rfl, ⟨rfl, (Or.inl ⟨rfl, (rg_w h_20 (by decide))⟩)⟩, by rw [ht]; exact hP, va_K.moved hW.alike hK, hD⟩, hS.F ht⟩) hS.2.2 dX12_isLot_17
    · refine lv_tov 0 e_16 ?_
      subst hQ
      exact W.zret (v := 0) hx hb hr (by decide) (fun t1 ht hW => ⟨⟨0, (σ, I, J, ri, rj, rq), rfl, ⟨rfl, (Or.inr ⟨rfl, trivial⟩)⟩, by rw [ht]; exact hP, va_K.moved hW.alike hK, hD⟩, hS.F ht⟩) hS.2.2 dX12_isLot_17
  exact go _ _ _ hP hD hS hl

set_option maxHeartbeats 4000000 in
set_option maxRecDepth 100000 in
theorem s_X12_freeIn (l : Launch) (D : va_G) (t : pq_T) (σ : pq_S) (I : Nat → Nat → Int32) (J : Nat → Nat → Int64) (ri : Nat → Nat → Int32) (rj : Nat → Nat → Int64) (rq : Nat → Nat → Option Nat) (sz : Nat) (tg : Nat → Nat) (hSH : SH σ tg) (hG0 : GT tg I ri) (this : Nat) (a0 : Int32) (hL_this : this ∈ σ.1) (hK_this : σ.2.1 this = 12) (h_a0 : rg a0 0 4) : MetI l yX12_freeIn (wa yX12_freeIn cX12_freeIn 2 (some .int)) ({ frames := 2, cells := 0, slots := 0, locals := 45 }) [.ref this, .int a0] D t σ (I, J, ri, rj, rq) sz 0 0 (fun (r : Int32) (u : pq_S × pq_M) => u = (σ, I, J, ri, rj, rq)) := by
  refine Met.ofW (cc := cX12_freeIn) (maxL := 2) (ret := (some .int)) (by decide) rfl ?_
  intro p e s m args below meth c s₁ B hml hv
  obtain ⟨rfl, hsz, hP, hK, hD0, hN⟩ := hv
  have hx := B.exec
  have hb := B.bytes
  have hr := B.returns
  have hts := atoms_spec (ws := (wa yX12_freeIn cX12_freeIn 2 (some .int))) B.pre
  have hown : s.vm.findClass RX12 = some m.cls := findClass_of_methodNamed B.named
  have hlocks := B.notSynchronized
  subst hsz
  have hD : va_D (pq_B t σ (I, J, ri, rj, rq) s.heap.size) (pq_P t σ (I, J, ri, rj, rq)) := hD0.self
  generalize hAe : pq_B t σ (I, J, ri, rj, rq) s.heap.size = A at hD ⊢
  have hA : ∀ q : Nat, s.heap.size ≤ q → A q := fun q h => by rw [← hAe]; exact Or.inr h
  have hS : va_S A s.heap s.heap [] := va_S.rf
  have hG : GM [] tg σ I ri I ri rq := ⟨hG0, fun _ _ _ => rfl, fun _ _ _ _ _ => rfl, fun _ _ _ _ _ _ => rfl⟩
  have hl := lv_entry ([.ref this, .int a0]) (n := 2) (Nat.le_of_ble_eq_true rfl)
  rw [lg_entry_eq]
  generalize (lg_sl ([.ref this, .int a0]) ++ List.replicate (2 - (lg_sl ([.ref this, .int a0])).length) Slot.unset).toArray = ls at hl ⊢
  have hl : lv_has ls 2 [(0, .ref this), (1, .int a0)] := hl
  refine q_gen (fun Q hQ => ?_)
  have go : ∀ (H : Heap) (locs : List Loc) (ls : Array Slot), va_P D vwCl (pq_P t σ (I, J, ri, rj, rq)) H → va_D A (pq_P t σ (I, J, ri, rj, rq)) → va_S A s.heap H locs → lv_has ls 2 [(0, .ref this), (1, .int a0)] → W p l e ({ frames := 2, cells := 0, slots := 0, locals := 45 } : Room) s m (List.toArray ([.ref this, .int a0] : List Value)) below meth c H locs 0 0 Q (F0 m 0 ls []) := by
    intro H locs ls hP hD hS hl
    refine lv_aload_n hx hb dX12_freeIn_0 rfl (lv_at hl 0 rfl) ?_
    obtain ⟨w_1, hR_w_1, hL_w_1, hK_w_1, hN_w_1, hT_w_1⟩ := sh_a hSH 384 (ci := 12) (kd := 13) (len := 12720) rfl (by decide) hL_this hK_this
    refine pg_f (v := .ref w_1) (C := RX12) (T := TX12) (N := 31) hx hb hts (tw_i inlX12) hown hK hP hL_this hK_this (by decide) rfl 0 (by decide) (hts _ (tw_c tw_176)) (pq_hv rfl hR_w_1) dX12_freeIn_1 ?_
    refine lv_bipush (v := 80) hx hb dX12_freeIn_4 (by decide) ?_
    refine lv_iload_n hx hb dX12_freeIn_6 rfl (lv_at hl 1 rfl) ?_
    refine lv_iadd hx hb dX12_freeIn_7 ?_
    refine lv_topi (fun x_2 ex_2 => ?_)
    have h_3 : rg x_2 80 84 := rg_of_eq ex_2 (rg_add (rg_k (80 : Int32) 80 rfl) h_a0 (by decide))
    have uh_3 := h_3.1
    have vh_3 := h_3.2
    have tx_2 : (x_2).toInt = 80 + (a0).toInt := by rw [ex_2]; exact i_add_rg (a2 := 80) (b2 := (a0).toInt) rfl rfl (rg_k (80 : Int32) 80 rfl) h_a0 (by decide)
    refine pl_i hx hb hK hP hL_w_1 hK_w_1 hN_w_1 (rg_in h_3 (by decide)) dX12_freeIn_8 ?_
    refine lv_topi (fun x_4 ex_4 => ?_)
    refine lv_aload_n hx hb dX12_freeIn_9 rfl (lv_at hl 0 rfl) ?_
    refine lv_bipush (v := 100) hx hb dX12_freeIn_10 (by decide) ?_
    refine lv_iload_n hx hb dX12_freeIn_12 rfl (lv_at hl 1 rfl) ?_
    refine lv_iadd hx hb dX12_freeIn_13 ?_
    refine lv_topi (fun x_5 ex_5 => ?_)
    have h_6 : rg x_5 100 104 := rg_of_eq ex_5 (rg_add (rg_k (100 : Int32) 100 rfl) h_a0 (by decide))
    have uh_6 := h_6.1
    have vh_6 := h_6.2
    have tx_5 : (x_5).toInt = 100 + (a0).toInt := by rw [ex_5]; exact i_add_rg (a2 := 100) (b2 := (a0).toInt) rfl rfl (rg_k (100 : Int32) 100 rfl) h_a0 (by decide)
    refine pk_i (va_runV (As := [.int x_5]) (rest := [.int x_4]) ⟨hx, hb, hml, hown, hts⟩ (s_X12_manyAt l D t σ I J ri rj rq H.size tg hSH hG.1 this x_5 hL_this hK_this) (cwV 1 hts (tw_V tw_445 tw_446 tw_447 tw_5 tw_448) rfl rfl rfl cv_yX12_manyAt_1 ⟨Nat.le_of_ble_eq_true rfl, Nat.le_of_ble_eq_true rfl⟩) ⟨pq_blind, pq_recv hK hP hL_this hK_this (by decide) rfl, pq_pre hK hN hP hD⟩ rfl rfl hl.1 rfl (lv_room (Nat.le_of_ble_eq_true rfl)) dX12_freeIn_14 ⟨Nat.le_of_ble_eq_true rfl, Nat.le_of_ble_eq_true rfl⟩) hD hS hA (fun x_7 σ1 μ1 H locs hw_8 hP hD hS => ?_)
    have hu_9 := hw_8
    obtain ⟨hu_9a, hu_9b⟩ := Prod.mk.inj hu_9
    rw [hu_9a, hu_9b] at hP hD
    refine lv_isub hx hb dX12_freeIn_17 ?_
    refine lv_topi (fun x_12 ex_12 => ?_)
    subst hQ
    exact W.iret (v := x_12) hx hb hr (fun t1 ht hW => ⟨⟨x_12, (σ, I, J, ri, rj, rq), rfl, rfl, by rw [ht]; exact hP, va_K.moved hW.alike hK, hD⟩, hS.F ht⟩) hS.2.2 dX12_freeIn_18
  exact go _ _ _ hP hD hS hl

set_option maxHeartbeats 4000000 in
set_option maxRecDepth 100000 in
theorem s_X12_isPlace (l : Launch) (D : va_G) (t : pq_T) (σ : pq_S) (I : Nat → Nat → Int32) (J : Nat → Nat → Int64) (ri : Nat → Nat → Int32) (rj : Nat → Nat → Int64) (rq : Nat → Nat → Option Nat) (sz : Nat) (tg : Nat → Nat) (hSH : SH σ tg) (hG0 : GT tg I ri) (this : Nat) (a0 : Int32) (hL_this : this ∈ σ.1) (hK_this : σ.2.1 this = 12) : MetI l yX12_isPlace (wa yX12_isPlace cX12_isPlace 2 (some .boolean)) ({ frames := 2, cells := 0, slots := 0, locals := 43 }) [.ref this, .int a0] D t σ (I, J, ri, rj, rq) sz 0 0 (fun (r : Int32) (u : pq_S × pq_M) => u = (σ, I, J, ri, rj, rq) ∧ ((r = 1 ∧ rg a0 0 200 ∧ (a0.toInt < 5 ∨ 100 ≤ a0.toInt)) ∨ (r = 0 ∧ True))) := by
  refine Met.ofW (cc := cX12_isPlace) (maxL := 2) (ret := (some .boolean)) (by decide) rfl ?_
  intro p e s m args below meth c s₁ B hml hv
  obtain ⟨rfl, hsz, hP, hK, hD0, hN⟩ := hv
  have hx := B.exec
  have hb := B.bytes
  have hr := B.returns
  have hts := atoms_spec (ws := (wa yX12_isPlace cX12_isPlace 2 (some .boolean))) B.pre
  have hown : s.vm.findClass RX12 = some m.cls := findClass_of_methodNamed B.named
  have hlocks := B.notSynchronized
  subst hsz
  have hD : va_D (pq_B t σ (I, J, ri, rj, rq) s.heap.size) (pq_P t σ (I, J, ri, rj, rq)) := hD0.self
  generalize hAe : pq_B t σ (I, J, ri, rj, rq) s.heap.size = A at hD ⊢
  have hA : ∀ q : Nat, s.heap.size ≤ q → A q := fun q h => by rw [← hAe]; exact Or.inr h
  have hS : va_S A s.heap s.heap [] := va_S.rf
  have hG : GM [] tg σ I ri I ri rq := ⟨hG0, fun _ _ _ => rfl, fun _ _ _ _ _ => rfl, fun _ _ _ _ _ _ => rfl⟩
  have hl := lv_entry ([.ref this, .int a0]) (n := 2) (Nat.le_of_ble_eq_true rfl)
  rw [lg_entry_eq]
  generalize (lg_sl ([.ref this, .int a0]) ++ List.replicate (2 - (lg_sl ([.ref this, .int a0])).length) Slot.unset).toArray = ls at hl ⊢
  have hl : lv_has ls 2 [(0, .ref this), (1, .int a0)] := hl
  refine q_gen (fun Q hQ => ?_)
  have go : ∀ (H : Heap) (locs : List Loc) (ls : Array Slot), va_P D vwCl (pq_P t σ (I, J, ri, rj, rq)) H → va_D A (pq_P t σ (I, J, ri, rj, rq)) → va_S A s.heap H locs → lv_has ls 2 [(0, .ref this), (1, .int a0)] → W p l e ({ frames := 2, cells := 0, slots := 0, locals := 43 } : Room) s m (List.toArray ([.ref this, .int a0] : List Value)) below meth c H locs 0 0 Q (F0 m 0 ls []) := by
    intro H locs ls hP hD hS hl
    refine lv_aload_n hx hb dX12_isPlace_0 rfl (lv_at hl 0 rfl) ?_
    refine lv_iload_n hx hb dX12_isPlace_1 rfl (lv_at hl 1 rfl) ?_
    refine pk_i (va_runV (As := [.int a0]) (rest := []) ⟨hx, hb, hml, hown, hts⟩ (s_X12_isRing l D t σ I J ri rj rq H.size tg hSH hG.1 this a0 hL_this hK_this) (cwV 1 hts (tw_V tw_231 tw_232 tw_233 tw_5 tw_234) rfl rfl rfl cv_yX12_isRing_1 ⟨Nat.le_of_ble_eq_true rfl, Nat.le_of_ble_eq_true rfl⟩) ⟨pq_blind, pq_recv hK hP hL_this hK_this (by decide) rfl, pq_pre hK hN hP hD⟩ rfl rfl hl.1 rfl (lv_room (Nat.le_of_ble_eq_true rfl)) dX12_isPlace_2 ⟨Nat.le_of_ble_eq_true rfl, Nat.le_of_ble_eq_true rfl⟩) hD hS hA (fun x_1 σ1 μ1 H locs hw_2 hP hD hS => ?_)
    obtain ⟨hu_3, hr_5⟩ := hw_2
    obtain ⟨hu_3a, hu_3b⟩ := Prod.mk.inj hu_3
    rw [hu_3a, hu_3b] at hP hD
    have h_6 : rg x_1 0 1 := by rcases hr_5 with ⟨q, -⟩ | ⟨q, -⟩ <;> rw [q] <;> exact ⟨by decide, by decide⟩
    have uh_6 := h_6.1
    have vh_6 := h_6.2
    refine lv_if_ne (tgt := 23) hx hb dX12_isPlace_5 (by decide) (fun c_7 => ?_) (fun c_7 => ?_)
    · have f_8 := (hr_5.resolve_right (fun q => c_7 q.1)).2
      have uf_8 := f_8.1
      have vf_8 := f_8.2
      have tc_9 : (x_1).toInt ≠ 0 := fun q => c_7 (Int32.toInt_inj.mp q)
      have h_10 : rg x_1 1 1 := rg_ne c_7 h_6 0 rfl (by decide)
      have uh_10 := h_10.1
      have vh_10 := h_10.2
      refine lv_iconst (v := 1) hx hb dX12_isPlace_23 (by decide) ?_
      refine lv_goto (tgt := 28) hx hb dX12_isPlace_24 (by decide) ?_
      subst hQ
      exact W.zret (v := 1) hx hb hr (by decide) (fun t1 ht hW => ⟨⟨1, (σ, I, J, ri, rj, rq), rfl, ⟨rfl, (Or.inl ⟨rfl, (rg_w f_8 (by decide)), (by omega)⟩)⟩, by rw [ht]; exact hP, va_K.moved hW.alike hK, hD⟩, hS.F ht⟩) hS.2.2 dX12_isPlace_28
    · have f_11 := (hr_5.resolve_left (fun q => absurd (q.1.symm.trans c_7) (by decide))).2
      have tc_12 : (x_1).toInt = 0 := congrArg Int32.toInt c_7
      have h_13 : rg x_1 0 0 := rg_and h_6 (rg_of_eq c_7 (rg_k (0 : Int32) 0 rfl)) (by decide)
      have uh_13 := h_13.1
      have vh_13 := h_13.2
      refine lv_aload_n hx hb dX12_isPlace_8 rfl (lv_at hl 0 rfl) ?_
      refine lv_iload_n hx hb dX12_isPlace_9 rfl (lv_at hl 1 rfl) ?_
      refine pk_i (va_runV (As := [.int a0]) (rest := []) ⟨hx, hb, hml, hown, hts⟩ (s_X12_isLot l D t σ I J ri rj rq H.size tg hSH hG.1 this a0 hL_this hK_this) (cwV 1 hts (tw_V tw_433 tw_434 tw_435 tw_5 tw_436) rfl rfl rfl cv_yX12_isLot_1 ⟨Nat.le_of_ble_eq_true rfl, Nat.le_of_ble_eq_true rfl⟩) ⟨pq_blind, pq_recv hK hP hL_this hK_this (by decide) rfl, pq_pre hK hN hP hD⟩ rfl rfl hl.1 rfl (lv_room (Nat.le_of_ble_eq_true rfl)) dX12_isPlace_10 ⟨Nat.le_of_ble_eq_true rfl, Nat.le_of_ble_eq_true rfl⟩) hD hS hA (fun x_14 σ1 μ1 H locs hw_15 hP hD hS => ?_)
      obtain ⟨hu_16, hr_18⟩ := hw_15
      obtain ⟨hu_16a, hu_16b⟩ := Prod.mk.inj hu_16
      rw [hu_16a, hu_16b] at hP hD
      have h_19 : rg x_14 0 1 := by rcases hr_18 with ⟨q, -⟩ | ⟨q, -⟩ <;> rw [q] <;> exact ⟨by decide, by decide⟩
      have uh_19 := h_19.1
      have vh_19 := h_19.2
      refine lv_if_ne (tgt := 23) hx hb dX12_isPlace_13 (by decide) (fun c_20 => ?_) (fun c_20 => ?_)
      · have f_21 := (hr_18.resolve_right (fun q => c_20 q.1)).2
        have uf_21 := f_21.1
        have vf_21 := f_21.2
        have tc_22 : (x_14).toInt ≠ 0 := fun q => c_20 (Int32.toInt_inj.mp q)
        have h_23 : rg x_14 1 1 := rg_ne c_20 h_19 0 rfl (by decide)
        have uh_23 := h_23.1
        have vh_23 := h_23.2
        refine lv_iconst (v := 1) hx hb dX12_isPlace_23 (by decide) ?_
        refine lv_goto (tgt := 28) hx hb dX12_isPlace_24 (by decide) ?_
        subst hQ
        exact W.zret (v := 1) hx hb hr (by decide) (fun t1 ht hW => ⟨⟨1, (σ, I, J, ri, rj, rq), rfl, ⟨rfl, (Or.inl ⟨rfl, (rg_w f_21 (by decide)), (by omega)⟩)⟩, by rw [ht]; exact hP, va_K.moved hW.alike hK, hD⟩, hS.F ht⟩) hS.2.2 dX12_isPlace_28
      · have f_24 := (hr_18.resolve_left (fun q => absurd (q.1.symm.trans c_20) (by decide))).2
        have tc_25 : (x_14).toInt = 0 := congrArg Int32.toInt c_20
        have h_26 : rg x_14 0 0 := rg_and h_19 (rg_of_eq c_20 (rg_k (0 : Int32) 0 rfl)) (by decide)
        have uh_26 := h_26.1
        have vh_26 := h_26.2
        refine lv_iload_n hx hb dX12_isPlace_16 rfl (lv_at hl 1 rfl) ?_
        refine lv_sipush (v := 200) hx hb dX12_isPlace_17 (by decide) ?_
        refine lv_icmp_ne (tgt := 27) hx hb dX12_isPlace_20 (by decide) (fun c_27 => ?_) (fun c_27 => ?_)
        · have tc_28 : (a0).toInt ≠ 200 := fun q => c_27 (Int32.toInt_inj.mp q)
          refine lv_iconst (v := 0) hx hb dX12_isPlace_27 (by decide) ?_
          subst hQ
          exact W.zret (v := 0) hx hb hr (by decide) (fun t1 ht hW => ⟨⟨0, (σ, I, J, ri, rj, rq), rfl, ⟨rfl, (Or.inr ⟨rfl, trivial⟩)⟩, by rw [ht]; exact hP, va_K.moved hW.alike hK, hD⟩, hS.F ht⟩) hS.2.2 dX12_isPlace_28
        · have tc_29 : (a0).toInt = 200 := congrArg Int32.toInt c_27
          have h_30 : rg a0 200 200 := rg_and (rg_full _) (rg_of_eq c_27 (rg_k (200 : Int32) 200 rfl)) (by decide)
          have uh_30 := h_30.1
          have vh_30 := h_30.2
          refine lv_iconst (v := 1) hx hb dX12_isPlace_23 (by decide) ?_
          refine lv_goto (tgt := 28) hx hb dX12_isPlace_24 (by decide) ?_
          subst hQ
          exact W.zret (v := 1) hx hb hr (by decide) (fun t1 ht hW => ⟨⟨1, (σ, I, J, ri, rj, rq), rfl, ⟨rfl, (Or.inl ⟨rfl, (rg_w h_30 (by decide)), (by omega)⟩)⟩, by rw [ht]; exact hP, va_K.moved hW.alike hK, hD⟩, hS.F ht⟩) hS.2.2 dX12_isPlace_28
  exact go _ _ _ hP hD hS hl

set_option maxHeartbeats 4000000 in
set_option maxRecDepth 100000 in
theorem s_X12_go (l : Launch) (D : va_G) (t : pq_T) (σ : pq_S) (I : Nat → Nat → Int32) (J : Nat → Nat → Int64) (ri : Nat → Nat → Int32) (rj : Nat → Nat → Int64) (rq : Nat → Nat → Option Nat) (sz : Nat) (tg : Nat → Nat) (hSH : SH σ tg) (hG0 : GT tg I ri) (this : Nat) (a0 : Int32) (a1 : Int32) (hL_this : this ∈ σ.1) (hK_this : σ.2.1 this = 12) : MetI l yX12_go (wa yX12_go cX12_go 3 (some .boolean)) ({ frames := 3, cells := 0, slots := 0, locals := 66 }) [.ref this, .int a0, .int a1] D t σ (I, J, ri, rj, rq) sz 0 0 (fun (r : Int32) (u : pq_S × pq_M) => ∃ ri' : Nat → Nat → Int32, u = (σ, I, J, ri', rj, rq) ∧ GM [1403] tg σ I ri I ri' rq ∧ ((r = 1 ∧ rg a0 0 39 ∧ rg a1 0 200) ∨ (r = 0 ∧ True))) := by
  refine Met.ofW (cc := cX12_go) (maxL := 3) (ret := (some .boolean)) (by decide) rfl ?_
  intro p e s m args below meth c s₁ B hml hv
  obtain ⟨rfl, hsz, hP, hK, hD0, hN⟩ := hv
  have hx := B.exec
  have hb := B.bytes
  have hr := B.returns
  have hts := atoms_spec (ws := (wa yX12_go cX12_go 3 (some .boolean))) B.pre
  have hown : s.vm.findClass RX12 = some m.cls := findClass_of_methodNamed B.named
  have hlocks := B.notSynchronized
  subst hsz
  have hD : va_D (pq_B t σ (I, J, ri, rj, rq) s.heap.size) (pq_P t σ (I, J, ri, rj, rq)) := hD0.self
  generalize hAe : pq_B t σ (I, J, ri, rj, rq) s.heap.size = A at hD ⊢
  have hA : ∀ q : Nat, s.heap.size ≤ q → A q := fun q h => by rw [← hAe]; exact Or.inr h
  have hS : va_S A s.heap s.heap [] := va_S.rf
  have hG : GM [1403] tg σ I ri I ri rq := ⟨hG0, fun _ _ _ => rfl, fun _ _ _ _ _ => rfl, fun _ _ _ _ _ _ => rfl⟩
  have hl := lv_entry ([.ref this, .int a0, .int a1]) (n := 3) (Nat.le_of_ble_eq_true rfl)
  rw [lg_entry_eq]
  generalize (lg_sl ([.ref this, .int a0, .int a1]) ++ List.replicate (3 - (lg_sl ([.ref this, .int a0, .int a1])).length) Slot.unset).toArray = ls at hl ⊢
  have hl : lv_has ls 3 [(0, .ref this), (1, .int a0), (2, .int a1)] := hl
  refine q_gen (fun Q hQ => ?_)
  have go : ∀ (H : Heap) (locs : List Loc) (ls : Array Slot), va_P D vwCl (pq_P t σ (I, J, ri, rj, rq)) H → va_D A (pq_P t σ (I, J, ri, rj, rq)) → va_S A s.heap H locs → lv_has ls 3 [(0, .ref this), (1, .int a0), (2, .int a1)] → W p l e ({ frames := 3, cells := 0, slots := 0, locals := 66 } : Room) s m (List.toArray ([.ref this, .int a0, .int a1] : List Value)) below meth c H locs 0 0 Q (F0 m 0 ls []) := by
    intro H locs ls hP hD hS hl
    refine lv_aload_n hx hb dX12_go_0 rfl (lv_at hl 0 rfl) ?_
    refine lv_iload_n hx hb dX12_go_1 rfl (lv_at hl 1 rfl) ?_
    refine pk_i (va_runV (As := [.int a0]) (rest := []) ⟨hx, hb, hml, hown, hts⟩ (s_X12_isPerson l D t σ I J ri rj rq H.size tg hSH hG.1 this a0 hL_this hK_this) (cwV 1 hts (tw_V tw_425 tw_426 tw_427 tw_5 tw_428) rfl rfl rfl cv_yX12_isPerson_1 ⟨Nat.le_of_ble_eq_true rfl, Nat.le_of_ble_eq_true rfl⟩) ⟨pq_blind, pq_recv hK hP hL_this hK_this (by decide) rfl, pq_pre hK hN hP hD⟩ rfl rfl hl.1 rfl (lv_room (Nat.le_of_ble_eq_true rfl)) dX12_go_2 ⟨Nat.le_of_ble_eq_true rfl, Nat.le_of_ble_eq_true rfl⟩) hD hS hA (fun x_1 σ1 μ1 H locs hw_2 hP hD hS => ?_)
    obtain ⟨hu_3, hr_5⟩ := hw_2
    obtain ⟨hu_3a, hu_3b⟩ := Prod.mk.inj hu_3
    rw [hu_3a, hu_3b] at hP hD
    have h_6 : rg x_1 0 1 := by rcases hr_5 with ⟨q, -⟩ | ⟨q, -⟩ <;> rw [q] <;> exact ⟨by decide, by decide⟩
    have uh_6 := h_6.1
    have vh_6 := h_6.2
    have K_86 : ∀  (H : Heap) (locs : List Loc) (ls : Array Slot), GM [1403] tg σ I ri I ri rq → va_P D vwCl (pq_P t σ (I, J, ri, rj, rq)) H → va_D A (pq_P t σ (I, J, ri, rj, rq)) → va_S A s.heap H locs → lv_has ls 3 [] → W p l e ({ frames := 3, cells := 0, slots := 0, locals := 66 } : Room) s m (List.toArray ([.ref this, .int a0, .int a1] : List Value)) below meth c H locs 0 0 Q (F0 m 38 ls []) := by
      intro H locs ls hG hP hD hS hl
      refine lv_iconst (v := 0) hx hb dX12_go_38 (by decide) ?_
      subst hQ
      exact W.zret (v := 0) hx hb hr (by decide) (fun t1 ht hW => ⟨⟨0, (σ, I, J, ri, rj, rq), rfl, ⟨ri, rfl, hG, (Or.inr ⟨rfl, trivial⟩)⟩, by rw [ht]; exact hP, va_K.moved hW.alike hK, hD⟩, hS.F ht⟩) hS.2.2 dX12_go_39
    refine lv_if_eq (tgt := 38) hx hb dX12_go_5 (by decide) (fun c_87 => ?_) (fun c_87 => ?_)
    · have f_88 := (hr_5.resolve_left (fun q => absurd (q.1.symm.trans c_87) (by decide))).2
      have tc_89 : (x_1).toInt = 0 := congrArg Int32.toInt c_87
      have h_90 : rg x_1 0 0 := rg_and h_6 (rg_of_eq c_87 (rg_k (0 : Int32) 0 rfl)) (by decide)
      have uh_90 := h_90.1
      have vh_90 := h_90.2
      exact K_86 _ _ _ hG hP hD hS (lv_sub hl [] rfl)
    · have f_91 := (hr_5.resolve_right (fun q => c_87 q.1)).2
      have uf_91 := f_91.1
      have vf_91 := f_91.2
      have tc_92 : (x_1).toInt ≠ 0 := fun q => c_87 (Int32.toInt_inj.mp q)
      have h_93 : rg x_1 1 1 := rg_ne c_87 h_6 0 rfl (by decide)
      have uh_93 := h_93.1
      have vh_93 := h_93.2
      refine lv_aload_n hx hb dX12_go_8 rfl (lv_at hl 0 rfl) ?_
      refine lv_iload_n hx hb dX12_go_9 rfl (lv_at hl 2 rfl) ?_
      refine pk_i (va_runV (As := [.int a1]) (rest := []) ⟨hx, hb, hml, hown, hts⟩ (s_X12_isPlace l D t σ I J ri rj rq H.size tg hSH hG.1 this a1 hL_this hK_this) (cwV 1 hts (tw_V tw_429 tw_430 tw_431 tw_5 tw_432) rfl rfl rfl cv_yX12_isPlace_1 ⟨Nat.le_of_ble_eq_true rfl, Nat.le_of_ble_eq_true rfl⟩) ⟨pq_blind, pq_recv hK hP hL_this hK_this (by decide) rfl, pq_pre hK hN hP hD⟩ rfl rfl hl.1 rfl (lv_room (Nat.le_of_ble_eq_true rfl)) dX12_go_10 ⟨Nat.le_of_ble_eq_true rfl, Nat.le_of_ble_eq_true rfl⟩) hD hS hA (fun x_94 σ1 μ1 H locs hw_95 hP hD hS => ?_)
      obtain ⟨hu_96, hr_98⟩ := hw_95
      obtain ⟨hu_96a, hu_96b⟩ := Prod.mk.inj hu_96
      rw [hu_96a, hu_96b] at hP hD
      have h_99 : rg x_94 0 1 := by rcases hr_98 with ⟨q, -⟩ | ⟨q, -⟩ <;> rw [q] <;> exact ⟨by decide, by decide⟩
      have uh_99 := h_99.1
      have vh_99 := h_99.2
      refine lv_if_eq (tgt := 38) hx hb dX12_go_13 (by decide) (fun c_100 => ?_) (fun c_100 => ?_)
      · have f_101 := (hr_98.resolve_left (fun q => absurd (q.1.symm.trans c_100) (by decide))).2
        have tc_102 : (x_94).toInt = 0 := congrArg Int32.toInt c_100
        have h_103 : rg x_94 0 0 := rg_and h_99 (rg_of_eq c_100 (rg_k (0 : Int32) 0 rfl)) (by decide)
        have uh_103 := h_103.1
        have vh_103 := h_103.2
        exact K_86 _ _ _ hG hP hD hS (lv_sub hl [] rfl)
      · obtain ⟨f_104, f_105⟩ := (hr_98.resolve_right (fun q => c_100 q.1)).2
        have uf_104 := f_104.1
        have vf_104 := f_104.2
        have tc_106 : (x_94).toInt ≠ 0 := fun q => c_100 (Int32.toInt_inj.mp q)
        have h_107 : rg x_94 1 1 := rg_ne c_100 h_99 0 rfl (by decide)
        have uh_107 := h_107.1
        have vh_107 := h_107.2
        refine lv_aload_n hx hb dX12_go_16 rfl (lv_at hl 0 rfl) ?_
        refine lv_iload_n hx hb dX12_go_17 rfl (lv_at hl 1 rfl) ?_
        refine lv_iconst (v := 3) hx hb dX12_go_18 (by decide) ?_
        obtain ⟨w_108, hR_w_108, hL_w_108, hK_w_108, hN_w_108, hT_w_108⟩ := sh_a hSH 384 (ci := 12) (kd := 13) (len := 12720) rfl (by decide) hL_this hK_this
        refine pk_i (va_runV (As := [.int a0, .int 3]) (rest := []) ⟨hx, hb, hml, hown, hts⟩ (s_X12_personAt_c3 l D t σ I J ri rj rq H.size tg hSH hG.1 this a0 hL_this hK_this (rg_w f_91 (by decide)) w_108 hR_w_108 hL_w_108 hK_w_108 hN_w_108 hT_w_108) (cwV 2 hts (tw_V tw_437 tw_438 tw_439 tw_5 tw_440) rfl rfl rfl cv_yX12_personAt_2 ⟨Nat.le_of_ble_eq_true rfl, Nat.le_of_ble_eq_true rfl⟩) ⟨pq_blind, pq_recv hK hP hL_this hK_this (by decide) rfl, pq_pre hK hN hP hD⟩ rfl rfl hl.1 rfl (lv_room (Nat.le_of_ble_eq_true rfl)) dX12_go_19 ⟨Nat.le_of_ble_eq_true rfl, Nat.le_of_ble_eq_true rfl⟩) hD hS hA (fun x_109 σ1 μ1 H locs hw_110 hP hD hS => ?_)
        obtain ⟨hu_111, hp_114, hp_115, hr_113⟩ := hw_110
        obtain ⟨hu_111a, hu_111b⟩ := Prod.mk.inj hu_111
        rw [hu_111a, hu_111b] at hP hD
        have tt_116 := hp_115
        refine lv_iload_n hx hb dX12_go_22 rfl (lv_at hl 2 rfl) ?_
        refine lv_icmp_eq (tgt := 38) hx hb dX12_go_23 (by decide) (fun c_117 => ?_) (fun c_117 => ?_)
        · have tc_118 : (x_109).toInt = (a1).toInt := congrArg Int32.toInt c_117
          have h_119 : rg x_109 0 200 := rg_and hr_113 (rg_of_eq c_117 f_104) (by decide)
          have uh_119 := h_119.1
          have vh_119 := h_119.2
          exact K_86 _ _ _ hG hP hD hS (lv_sub hl [] rfl)
        · have tc_120 : (x_109).toInt ≠ (a1).toInt := fun q => c_117 (Int32.toInt_inj.mp q)
          refine lv_aload_n hx hb dX12_go_26 rfl (lv_at hl 0 rfl) ?_
          refine lv_iload_n hx hb dX12_go_27 rfl (lv_at hl 1 rfl) ?_
          refine lv_iconst (v := 3) hx hb dX12_go_28 (by decide) ?_
          refine pk_i (va_runV (As := [.int a0, .int 3]) (rest := []) ⟨hx, hb, hml, hown, hts⟩ (s_X12_personAt_c3 l D t σ I J ri rj rq H.size tg hSH hG.1 this a0 hL_this hK_this (rg_w f_91 (by decide)) w_108 hR_w_108 hL_w_108 hK_w_108 hN_w_108 hT_w_108) (cwV 2 hts (tw_V tw_437 tw_438 tw_439 tw_5 tw_440) rfl rfl rfl cv_yX12_personAt_2 ⟨Nat.le_of_ble_eq_true rfl, Nat.le_of_ble_eq_true rfl⟩) ⟨pq_blind, pq_recv hK hP hL_this hK_this (by decide) rfl, pq_pre hK hN hP hD⟩ rfl rfl hl.1 rfl (lv_room (Nat.le_of_ble_eq_true rfl)) dX12_go_29 ⟨Nat.le_of_ble_eq_true rfl, Nat.le_of_ble_eq_true rfl⟩) hD hS hA (fun x_121 σ1 μ1 H locs hw_122 hP hD hS => ?_)
          obtain ⟨hu_123, hp_126, hp_127, hr_125⟩ := hw_122
          obtain ⟨hu_123a, hu_123b⟩ := Prod.mk.inj hu_123
          rw [hu_123a, hu_123b] at hP hD
          have tt_128 := hp_127
          refine lv_sipush (v := 300) hx hb dX12_go_32 (by decide) ?_
          refine lv_icmp_ne (tgt := 40) hx hb dX12_go_35 (by decide) (fun c_129 => ?_) (fun c_129 => ?_)
          · have tc_130 : (x_121).toInt ≠ 300 := fun q => c_129 (Int32.toInt_inj.mp q)
            have h_131 : rg x_121 0 299 := rg_ne c_129 hr_125 300 rfl (by decide)
            have uh_131 := h_131.1
            have vh_131 := h_131.2
            refine lv_aload_n hx hb dX12_go_40 rfl (lv_at hl 0 rfl) ?_
            refine lv_iload_n hx hb dX12_go_41 rfl (lv_at hl 2 rfl) ?_
            refine pk_i (va_runV (As := [.int a1]) (rest := []) ⟨hx, hb, hml, hown, hts⟩ (s_X12_isLot l D t σ I J ri rj rq H.size tg hSH hG.1 this a1 hL_this hK_this) (cwV 1 hts (tw_V tw_433 tw_434 tw_435 tw_5 tw_436) rfl rfl rfl cv_yX12_isLot_1 ⟨Nat.le_of_ble_eq_true rfl, Nat.le_of_ble_eq_true rfl⟩) ⟨pq_blind, pq_recv hK hP hL_this hK_this (by decide) rfl, pq_pre hK hN hP hD⟩ rfl rfl hl.1 rfl (lv_room (Nat.le_of_ble_eq_true rfl)) dX12_go_42 ⟨Nat.le_of_ble_eq_true rfl, Nat.le_of_ble_eq_true rfl⟩) hD hS hA (fun x_132 σ1 μ1 H locs hw_133 hP hD hS => ?_)
            obtain ⟨hu_134, hr_136⟩ := hw_133
            obtain ⟨hu_134a, hu_134b⟩ := Prod.mk.inj hu_134
            rw [hu_134a, hu_134b] at hP hD
            have h_137 : rg x_132 0 1 := by rcases hr_136 with ⟨q, -⟩ | ⟨q, -⟩ <;> rw [q] <;> exact ⟨by decide, by decide⟩
            have uh_137 := h_137.1
            have vh_137 := h_137.2
            have K_164 : ∀  (H : Heap) (locs : List Loc) (ls : Array Slot), GM [1403] tg σ I ri I ri rq → va_P D vwCl (pq_P t σ (I, J, ri, rj, rq)) H → va_D A (pq_P t σ (I, J, ri, rj, rq)) → va_S A s.heap H locs → lv_has ls 3 [(0, .ref this), (1, .int a0), (2, .int a1)] → W p l e ({ frames := 3, cells := 0, slots := 0, locals := 66 } : Room) s m (List.toArray ([.ref this, .int a0, .int a1] : List Value)) below meth c H locs 0 0 Q (F0 m 61 ls []) := by
              intro H locs ls hG hP hD hS hl
              refine lv_aload_n hx hb dX12_go_61 rfl (lv_at hl 0 rfl) ?_
              refine pg_f (v := .ref w_108) (C := RX12) (T := TX12) (N := 31) hx hb hts (tw_i inlX12) hown hK hP hL_this hK_this (by decide) rfl 0 (by decide) (hts _ (tw_c tw_176)) (pq_hv rfl hR_w_108) dX12_go_62 ?_
              refine lv_sipush (v := 740) hx hb dX12_go_65 (by decide) ?_
              refine lv_bipush (v := 12) hx hb dX12_go_68 (by decide) ?_
              refine lv_iload_n hx hb dX12_go_70 rfl (lv_at hl 1 rfl) ?_
              refine lv_imul hx hb dX12_go_71 ?_
              refine lv_topi (fun x_165 ex_165 => ?_)
              have h_166 : rg x_165 0 468 := rg_of_eq ex_165 (rg_mul (rg_k (12 : Int32) 12 rfl) f_91 (by decide))
              have uh_166 := h_166.1
              have vh_166 := h_166.2
              have tx_165 : (x_165).toInt = 12 * (a0).toInt := by rw [ex_165]; exact i_mul_rg (a2 := 12) (b2 := (a0).toInt) rfl rfl (rg_k (12 : Int32) 12 rfl) f_91 (by decide)
              refine lv_iadd hx hb dX12_go_72 ?_
              refine lv_topi (fun x_167 ex_167 => ?_)
              have h_168 : rg x_167 740 1208 := rg_of_eq ex_167 (rg_add (rg_k (740 : Int32) 740 rfl) h_166 (by decide))
              have uh_168 := h_168.1
              have vh_168 := h_168.2
              have tx_167 : (x_167).toInt = 740 + (x_165).toInt := by rw [ex_167]; exact i_add_rg (a2 := 740) (b2 := (x_165).toInt) rfl rfl (rg_k (740 : Int32) 740 rfl) h_166 (by decide)
              refine lv_iconst (v := 3) hx hb dX12_go_73 (by decide) ?_
              refine lv_iadd hx hb dX12_go_74 ?_
              refine lv_topi (fun x_169 ex_169 => ?_)
              have h_170 : rg x_169 743 1211 := rg_of_eq ex_169 (rg_add h_168 (rg_k (3 : Int32) 3 rfl) (by decide))
              have uh_170 := h_170.1
              have vh_170 := h_170.2
              have tx_169 : (x_169).toInt = (x_167).toInt + 3 := by rw [ex_169]; exact i_add_rg (a2 := (x_167).toInt) (b2 := 3) rfl rfl h_168 (rg_k (3 : Int32) 3 rfl) (by decide)
              refine lv_iload_n hx hb dX12_go_75 rfl (lv_at hl 2 rfl) ?_
              refine pt_i hx hb hK hP hD hS hL_w_108 hK_w_108 hN_w_108 (rg_in h_170 (by decide)) dX12_go_76 (fun r_171 H locs er_171 hP hD hS => ?_)
              have hG := GM.wp hG hT_w_108 (by decide) er_171 (zn_PERSON (c := a0.toNatClampNeg) (k := 3) (by have z_i := clampE x_169; have z_0 := clampE a0; omega) (rg_cl1 f_91 (by decide)) (by decide)) (rg_w f_104 (by decide)) (by omega) (by decide)
              refine lv_iconst (v := 1) hx hb dX12_go_77 (by decide) ?_
              subst hQ
              exact W.zret (v := 1) hx hb hr (by decide) (fun t1 ht hW => ⟨⟨1, (σ, I, J, r_171, rj, rq), rfl, ⟨r_171, rfl, hG, (Or.inl ⟨rfl, (rg_w f_91 (by decide)), (rg_w f_104 (by decide))⟩)⟩, by rw [ht]; exact hP, va_K.moved hW.alike hK, hD⟩, hS.F ht⟩) hS.2.2 dX12_go_78
            refine lv_if_eq (tgt := 61) hx hb dX12_go_45 (by decide) (fun c_172 => ?_) (fun c_172 => ?_)
            · have f_173 := (hr_136.resolve_left (fun q => absurd (q.1.symm.trans c_172) (by decide))).2
              have tc_174 : (x_132).toInt = 0 := congrArg Int32.toInt c_172
              have h_175 : rg x_132 0 0 := rg_and h_137 (rg_of_eq c_172 (rg_k (0 : Int32) 0 rfl)) (by decide)
              have uh_175 := h_175.1
              have vh_175 := h_175.2
              exact K_164 _ _ _ hG hP hD hS (lv_sub hl [0, 1, 2] rfl)
            · have f_176 := (hr_136.resolve_right (fun q => c_172 q.1)).2
              have uf_176 := f_176.1
              have vf_176 := f_176.2
              have tc_177 : (x_132).toInt ≠ 0 := fun q => c_172 (Int32.toInt_inj.mp q)
              have h_178 : rg x_132 1 1 := rg_ne c_172 h_137 0 rfl (by decide)
              have uh_178 := h_178.1
              have vh_178 := h_178.2
              refine lv_aload_n hx hb dX12_go_48 rfl (lv_at hl 0 rfl) ?_
              refine lv_iload_n hx hb dX12_go_49 rfl (lv_at hl 2 rfl) ?_
              refine lv_bipush (v := 100) hx hb dX12_go_50 (by decide) ?_
              refine lv_isub hx hb dX12_go_52 ?_
              refine lv_topi (fun x_179 ex_179 => ?_)
              have h_180 : rg x_179 0 4 := rg_of_eq ex_179 (rg_sub f_176 (rg_k (100 : Int32) 100 rfl) (by decide))
              have uh_180 := h_180.1
              have vh_180 := h_180.2
              have tx_179 : (x_179).toInt = (a1).toInt - 100 := by rw [ex_179]; exact i_sub_rg (a2 := (a1).toInt) (b2 := 100) rfl rfl f_176 (rg_k (100 : Int32) 100 rfl) (by decide)
              refine pk_i (va_runV (As := [.int x_179]) (rest := []) ⟨hx, hb, hml, hown, hts⟩ (s_X12_freeIn l D t σ I J ri rj rq H.size tg hSH hG.1 this x_179 hL_this hK_this (rg_w h_180 (by decide))) (cwV 1 hts (tw_V tw_441 tw_442 tw_443 tw_5 tw_444) rfl rfl rfl cv_yX12_freeIn_1 ⟨Nat.le_of_ble_eq_true rfl, Nat.le_of_ble_eq_true rfl⟩) ⟨pq_blind, pq_recv hK hP hL_this hK_this (by decide) rfl, pq_pre hK hN hP hD⟩ rfl rfl hl.1 rfl (lv_room (Nat.le_of_ble_eq_true rfl)) dX12_go_53 ⟨Nat.le_of_ble_eq_true rfl, Nat.le_of_ble_eq_true rfl⟩) hD hS hA (fun x_181 σ1 μ1 H locs hw_182 hP hD hS => ?_)
              have hu_183 := hw_182
              obtain ⟨hu_183a, hu_183b⟩ := Prod.mk.inj hu_183
              rw [hu_183a, hu_183b] at hP hD
              refine lv_if_gt (tgt := 61) hx hb dX12_go_56 (by decide) (fun c_186 => ?_) (fun c_186 => ?_)
              · have tc_187 : 0 < (x_181).toInt := Int32.lt_iff_toInt_lt.mp c_186
                have h_188 : rg x_181 1 2147483647 := rg_lt2 c_186 (rg_k (0 : Int32) 0 rfl) (rg_full _) (by decide)
                have uh_188 := h_188.1
                have vh_188 := h_188.2
                exact K_164 _ _ _ hG hP hD hS (lv_sub hl [0, 1, 2] rfl)
              · have tc_189 : (x_181).toInt ≤ 0 := Int32.le_iff_toInt_le.mp (nlt c_186)
                have h_190 : rg x_181 (-2147483648) 0 := rg_le1 (nlt c_186) (rg_full _) (rg_k (0 : Int32) 0 rfl) (by decide)
                have uh_190 := h_190.1
                have vh_190 := h_190.2
                refine lv_iconst (v := 0) hx hb dX12_go_59 (by decide) ?_
                subst hQ
                exact W.zret (v := 0) hx hb hr (by decide) (fun t1 ht hW => ⟨⟨0, (σ, I, J, ri, rj, rq), rfl, ⟨ri, rfl, hG, (Or.inr ⟨rfl, trivial⟩)⟩, by rw [ht]; exact hP, va_K.moved hW.alike hK, hD⟩, hS.F ht⟩) hS.2.2 dX12_go_60
          · have tc_191 : (x_121).toInt = 300 := congrArg Int32.toInt c_129
            have h_192 : rg x_121 300 300 := rg_and hr_125 (rg_of_eq c_129 (rg_k (300 : Int32) 300 rfl)) (by decide)
            have uh_192 := h_192.1
            have vh_192 := h_192.2
            exact K_86 _ _ _ hG hP hD hS (lv_sub hl [] rfl)
  exact go _ _ _ hP hD hS hl

set_option maxHeartbeats 4000000 in
set_option maxRecDepth 100000 in
theorem s_X12_clausesOf (l : Launch) (D : va_G) (t : pq_T) (σ : pq_S) (I : Nat → Nat → Int32) (J : Nat → Nat → Int64) (ri : Nat → Nat → Int32) (rj : Nat → Nat → Int64) (rq : Nat → Nat → Option Nat) (sz : Nat) (tg : Nat → Nat) (hSH : SH σ tg) (hG0 : GT tg I ri) (this : Nat) (a0 : Int32) (hL_this : this ∈ σ.1) (hK_this : σ.2.1 this = 12) (h_a0 : rg a0 0 9) (this_a : Nat) (hR_this_a : σ.2.2.1 384 this = some this_a) (hL_this_a : this_a ∈ σ.1) (hK_this_a : σ.2.1 this_a = 13) (hN_this_a : σ.2.2.2 this_a = 12720) (hT_this_a : tg this_a = 384) : MetI l yX12_clausesOf (wa yX12_clausesOf cX12_clausesOf 2 (some .int)) ({ frames := 0, cells := 0, slots := 0, locals := 0 }) [.ref this, .int a0] D t σ (I, J, ri, rj, rq) sz 0 0 (fun (r : Int32) (u : pq_S × pq_M) => u = (σ, I, J, ri, rj, rq) ∧ (r = ri this_a (3720 + 900 * a0.toNatClampNeg)) ∧ rg r 0 20) := by
  refine Met.ofW (cc := cX12_clausesOf) (maxL := 2) (ret := (some .int)) (by decide) rfl ?_
  intro p e s m args below meth c s₁ B hml hv
  obtain ⟨rfl, hsz, hP, hK, hD0, hN⟩ := hv
  have hx := B.exec
  have hb := B.bytes
  have hr := B.returns
  have hts := atoms_spec (ws := (wa yX12_clausesOf cX12_clausesOf 2 (some .int))) B.pre
  have hown : s.vm.findClass RX12 = some m.cls := findClass_of_methodNamed B.named
  have hlocks := B.notSynchronized
  subst hsz
  have hD : va_D (pq_B t σ (I, J, ri, rj, rq) s.heap.size) (pq_P t σ (I, J, ri, rj, rq)) := hD0.self
  generalize hAe : pq_B t σ (I, J, ri, rj, rq) s.heap.size = A at hD ⊢
  have hA : ∀ q : Nat, s.heap.size ≤ q → A q := fun q h => by rw [← hAe]; exact Or.inr h
  have hS : va_S A s.heap s.heap [] := va_S.rf
  have hG : GM [] tg σ I ri I ri rq := ⟨hG0, fun _ _ _ => rfl, fun _ _ _ _ _ => rfl, fun _ _ _ _ _ _ => rfl⟩
  have hl := lv_entry ([.ref this, .int a0]) (n := 2) (Nat.le_of_ble_eq_true rfl)
  rw [lg_entry_eq]
  generalize (lg_sl ([.ref this, .int a0]) ++ List.replicate (2 - (lg_sl ([.ref this, .int a0])).length) Slot.unset).toArray = ls at hl ⊢
  have hl : lv_has ls 2 [(0, .ref this), (1, .int a0)] := hl
  refine q_gen (fun Q hQ => ?_)
  have go : ∀ (H : Heap) (locs : List Loc) (ls : Array Slot), va_P D vwCl (pq_P t σ (I, J, ri, rj, rq)) H → va_D A (pq_P t σ (I, J, ri, rj, rq)) → va_S A s.heap H locs → lv_has ls 2 [(0, .ref this), (1, .int a0)] → W p l e ({ frames := 0, cells := 0, slots := 0, locals := 0 } : Room) s m (List.toArray ([.ref this, .int a0] : List Value)) below meth c H locs 0 0 Q (F0 m 0 ls []) := by
    intro H locs ls hP hD hS hl
    refine lv_aload_n hx hb dX12_clausesOf_0 rfl (lv_at hl 0 rfl) ?_
    refine pg_f (v := .ref this_a) (C := RX12) (T := TX12) (N := 31) hx hb hts (tw_i inlX12) hown hK hP hL_this hK_this (by decide) rfl 0 (by decide) (hts _ (tw_c tw_176)) (pq_hv rfl hR_this_a) dX12_clausesOf_1 ?_
    refine lv_sipush (v := 3720) hx hb dX12_clausesOf_4 (by decide) ?_
    refine lv_sipush (v := 900) hx hb dX12_clausesOf_7 (by decide) ?_
    refine lv_iload_n hx hb dX12_clausesOf_10 rfl (lv_at hl 1 rfl) ?_
    refine lv_imul hx hb dX12_clausesOf_11 ?_
    refine lv_topi (fun x_1 ex_1 => ?_)
    have h_2 : rg x_1 0 8100 := rg_of_eq ex_1 (rg_mul (rg_k (900 : Int32) 900 rfl) h_a0 (by decide))
    have uh_2 := h_2.1
    have vh_2 := h_2.2
    have tx_1 : (x_1).toInt = 900 * (a0).toInt := by rw [ex_1]; exact i_mul_rg (a2 := 900) (b2 := (a0).toInt) rfl rfl (rg_k (900 : Int32) 900 rfl) h_a0 (by decide)
    refine lv_iadd hx hb dX12_clausesOf_12 ?_
    refine lv_topi (fun x_3 ex_3 => ?_)
    have h_4 : rg x_3 3720 11820 := rg_of_eq ex_3 (rg_add (rg_k (3720 : Int32) 3720 rfl) h_2 (by decide))
    have uh_4 := h_4.1
    have vh_4 := h_4.2
    have tx_3 : (x_3).toInt = 3720 + (x_1).toInt := by rw [ex_3]; exact i_add_rg (a2 := 3720) (b2 := (x_1).toInt) rfl rfl (rg_k (3720 : Int32) 3720 rfl) h_2 (by decide)
    refine pl_i hx hb hK hP hL_this_a hK_this_a hN_this_a (rg_in h_4 (by decide)) dX12_clausesOf_13 ?_
    refine lv_topi (fun x_5 ex_5 => ?_)
    have h_6 : rg x_5 0 20 := rg_of_eq ex_5 (GM.z hG (by rw [hT_this_a]; decide) (zn_t0 (t := a0.toNatClampNeg) (by have z_i := clampE x_3; have z_0 := clampE a0; omega) (rg_cl1 h_a0 (by decide))) rfl)
    have uh_6 := h_6.1
    have vh_6 := h_6.2
    subst hQ
    exact W.iret (v := x_5) hx hb hr (fun t1 ht hW => ⟨⟨x_5, (σ, I, J, ri, rj, rq), rfl, ⟨rfl, (show x_5 = ri this_a (3720 + 900 * a0.toNatClampNeg) from ex_5.trans (congrArg (ri this_a) (by have z0 := clampE a0; have z9 := clampE x_3; omega))), (rg_w h_6 (by decide))⟩, by rw [ht]; exact hP, va_K.moved hW.alike hK, hD⟩, hS.F ht⟩) hS.2.2 dX12_clausesOf_14
  exact go _ _ _ hP hD hS hl

set_option maxHeartbeats 4000000 in
set_option maxRecDepth 100000 in
theorem s_X12_clauseAt (l : Launch) (D : va_G) (t : pq_T) (σ : pq_S) (I : Nat → Nat → Int32) (J : Nat → Nat → Int64) (ri : Nat → Nat → Int32) (rj : Nat → Nat → Int64) (rq : Nat → Nat → Option Nat) (sz : Nat) (tg : Nat → Nat) (hSH : SH σ tg) (hG0 : GT tg I ri) (this : Nat) (a0 : Int32) (a1 : Int32) (hL_this : this ∈ σ.1) (hK_this : σ.2.1 this = 12) (h_a0 : rg a0 0 9) (h_a1 : rg a1 0 20) : MetI l yX12_clauseAt (wa yX12_clauseAt cX12_clauseAt 3 (some .int)) ({ frames := 0, cells := 0, slots := 0, locals := 0 }) [.ref this, .int a0, .int a1] D t σ (I, J, ri, rj, rq) sz 0 0 (fun (r : Int32) (u : pq_S × pq_M) => u = (σ, I, J, ri, rj, rq) ∧ (r.toInt = 3721 + 900 * a0.toInt + 12 * a1.toInt) ∧ rg r 3721 12061) := by
  refine Met.ofW (cc := cX12_clauseAt) (maxL := 3) (ret := (some .int)) (by decide) rfl ?_
  intro p e s m args below meth c s₁ B hml hv
  obtain ⟨rfl, hsz, hP, hK, hD0, hN⟩ := hv
  have hx := B.exec
  have hb := B.bytes
  have hr := B.returns
  have hts := atoms_spec (ws := (wa yX12_clauseAt cX12_clauseAt 3 (some .int))) B.pre
  have hown : s.vm.findClass RX12 = some m.cls := findClass_of_methodNamed B.named
  have hlocks := B.notSynchronized
  subst hsz
  have hD : va_D (pq_B t σ (I, J, ri, rj, rq) s.heap.size) (pq_P t σ (I, J, ri, rj, rq)) := hD0.self
  generalize hAe : pq_B t σ (I, J, ri, rj, rq) s.heap.size = A at hD ⊢
  have hA : ∀ q : Nat, s.heap.size ≤ q → A q := fun q h => by rw [← hAe]; exact Or.inr h
  have hS : va_S A s.heap s.heap [] := va_S.rf
  have hG : GM [] tg σ I ri I ri rq := ⟨hG0, fun _ _ _ => rfl, fun _ _ _ _ _ => rfl, fun _ _ _ _ _ _ => rfl⟩
  have hl := lv_entry ([.ref this, .int a0, .int a1]) (n := 3) (Nat.le_of_ble_eq_true rfl)
  rw [lg_entry_eq]
  generalize (lg_sl ([.ref this, .int a0, .int a1]) ++ List.replicate (3 - (lg_sl ([.ref this, .int a0, .int a1])).length) Slot.unset).toArray = ls at hl ⊢
  have hl : lv_has ls 3 [(0, .ref this), (1, .int a0), (2, .int a1)] := hl
  refine q_gen (fun Q hQ => ?_)
  have go : ∀ (H : Heap) (locs : List Loc) (ls : Array Slot), va_P D vwCl (pq_P t σ (I, J, ri, rj, rq)) H → va_D A (pq_P t σ (I, J, ri, rj, rq)) → va_S A s.heap H locs → lv_has ls 3 [(0, .ref this), (1, .int a0), (2, .int a1)] → W p l e ({ frames := 0, cells := 0, slots := 0, locals := 0 } : Room) s m (List.toArray ([.ref this, .int a0, .int a1] : List Value)) below meth c H locs 0 0 Q (F0 m 0 ls []) := by
    intro H locs ls hP hD hS hl
    refine lv_sipush (v := 3720) hx hb dX12_clauseAt_0 (by decide) ?_
    refine lv_sipush (v := 900) hx hb dX12_clauseAt_3 (by decide) ?_
    refine lv_iload_n hx hb dX12_clauseAt_6 rfl (lv_at hl 1 rfl) ?_
    refine lv_imul hx hb dX12_clauseAt_7 ?_
    refine lv_topi (fun x_1 ex_1 => ?_)
    have h_2 : rg x_1 0 8100 := rg_of_eq ex_1 (rg_mul (rg_k (900 : Int32) 900 rfl) h_a0 (by decide))
    have uh_2 := h_2.1
    have vh_2 := h_2.2
    have tx_1 : (x_1).toInt = 900 * (a0).toInt := by rw [ex_1]; exact i_mul_rg (a2 := 900) (b2 := (a0).toInt) rfl rfl (rg_k (900 : Int32) 900 rfl) h_a0 (by decide)
    refine lv_iadd hx hb dX12_clauseAt_8 ?_
    refine lv_topi (fun x_3 ex_3 => ?_)
    have h_4 : rg x_3 3720 11820 := rg_of_eq ex_3 (rg_add (rg_k (3720 : Int32) 3720 rfl) h_2 (by decide))
    have uh_4 := h_4.1
    have vh_4 := h_4.2
    have tx_3 : (x_3).toInt = 3720 + (x_1).toInt := by rw [ex_3]; exact i_add_rg (a2 := 3720) (b2 := (x_1).toInt) rfl rfl (rg_k (3720 : Int32) 3720 rfl) h_2 (by decide)
    refine lv_iconst (v := 1) hx hb dX12_clauseAt_9 (by decide) ?_
    refine lv_iadd hx hb dX12_clauseAt_10 ?_
    refine lv_topi (fun x_5 ex_5 => ?_)
    have h_6 : rg x_5 3721 11821 := rg_of_eq ex_5 (rg_add h_4 (rg_k (1 : Int32) 1 rfl) (by decide))
    have uh_6 := h_6.1
    have vh_6 := h_6.2
    have tx_5 : (x_5).toInt = (x_3).toInt + 1 := by rw [ex_5]; exact i_add_rg (a2 := (x_3).toInt) (b2 := 1) rfl rfl h_4 (rg_k (1 : Int32) 1 rfl) (by decide)
    refine lv_bipush (v := 12) hx hb dX12_clauseAt_11 (by decide) ?_
    refine lv_iload_n hx hb dX12_clauseAt_13 rfl (lv_at hl 2 rfl) ?_
    refine lv_imul hx hb dX12_clauseAt_14 ?_
    refine lv_topi (fun x_7 ex_7 => ?_)
    have h_8 : rg x_7 0 240 := rg_of_eq ex_7 (rg_mul (rg_k (12 : Int32) 12 rfl) h_a1 (by decide))
    have uh_8 := h_8.1
    have vh_8 := h_8.2
    have tx_7 : (x_7).toInt = 12 * (a1).toInt := by rw [ex_7]; exact i_mul_rg (a2 := 12) (b2 := (a1).toInt) rfl rfl (rg_k (12 : Int32) 12 rfl) h_a1 (by decide)
    refine lv_iadd hx hb dX12_clauseAt_15 ?_
    refine lv_topi (fun x_9 ex_9 => ?_)
    have h_10 : rg x_9 3721 12061 := rg_of_eq ex_9 (rg_add h_6 h_8 (by decide))
    have uh_10 := h_10.1
    have vh_10 := h_10.2
    have tx_9 : (x_9).toInt = (x_5).toInt + (x_7).toInt := by rw [ex_9]; exact i_add_rg (a2 := (x_5).toInt) (b2 := (x_7).toInt) rfl rfl h_6 h_8 (by decide)
    subst hQ
    exact W.iret (v := x_9) hx hb hr (fun t1 ht hW => ⟨⟨x_9, (σ, I, J, ri, rj, rq), rfl, ⟨rfl, (by omega), (rg_w h_10 (by decide))⟩, by rw [ht]; exact hP, va_K.moved hW.alike hK, hD⟩, hS.F ht⟩) hS.2.2 dX12_clauseAt_16
  exact go _ _ _ hP hD hS hl

set_option maxHeartbeats 4000000 in
set_option maxRecDepth 100000 in
theorem s_X12_firstOf (l : Launch) (D : va_G) (t : pq_T) (σ : pq_S) (I : Nat → Nat → Int32) (J : Nat → Nat → Int64) (ri : Nat → Nat → Int32) (rj : Nat → Nat → Int64) (rq : Nat → Nat → Option Nat) (sz : Nat) (tg : Nat → Nat) (hSH : SH σ tg) (hG0 : GT tg I ri) (this : Nat) (a0 : Int32) (a1 : Int32) (hL_this : this ∈ σ.1) (hK_this : σ.2.1 this = 12) (h_a0 : rg a0 0 9) (this_a : Nat) (hR_this_a : σ.2.2.1 384 this = some this_a) (hL_this_a : this_a ∈ σ.1) (hK_this_a : σ.2.1 this_a = 13) (hN_this_a : σ.2.2.2 this_a = 12720) (hT_this_a : tg this_a = 384) : MetI l yX12_firstOf (wa yX12_firstOf cX12_firstOf 4 (some .int)) ({ frames := 1, cells := 0, slots := 0, locals := 22 }) [.ref this, .int a0, .int a1] D t σ (I, J, ri, rj, rq) sz 0 0 (fun (r : Int32) (u : pq_S × pq_M) => u = (σ, I, J, ri, rj, rq) ∧ (r.toInt = -1 ∨ ∃ c : Nat, c < 20 ∧ (c : Int) < (ri this_a (3720 + 900 * a0.toNatClampNeg)).toInt ∧ r.toInt = 3721 + 900 * a0.toInt + 12 * c) ∧ rg r (-1) 12061) := by
  refine Met.ofW (cc := cX12_firstOf) (maxL := 4) (ret := (some .int)) (by decide) rfl ?_
  intro p e s m args below meth c s₁ B hml hv
  obtain ⟨rfl, hsz, hP, hK, hD0, hN⟩ := hv
  have hx := B.exec
  have hb := B.bytes
  have hr := B.returns
  have hts := atoms_spec (ws := (wa yX12_firstOf cX12_firstOf 4 (some .int))) B.pre
  have hown : s.vm.findClass RX12 = some m.cls := findClass_of_methodNamed B.named
  have hlocks := B.notSynchronized
  subst hsz
  have hD : va_D (pq_B t σ (I, J, ri, rj, rq) s.heap.size) (pq_P t σ (I, J, ri, rj, rq)) := hD0.self
  generalize hAe : pq_B t σ (I, J, ri, rj, rq) s.heap.size = A at hD ⊢
  have hA : ∀ q : Nat, s.heap.size ≤ q → A q := fun q h => by rw [← hAe]; exact Or.inr h
  have hS : va_S A s.heap s.heap [] := va_S.rf
  have hG : GM [] tg σ I ri I ri rq := ⟨hG0, fun _ _ _ => rfl, fun _ _ _ _ _ => rfl, fun _ _ _ _ _ _ => rfl⟩
  have hl := lv_entry ([.ref this, .int a0, .int a1]) (n := 4) (Nat.le_of_ble_eq_true rfl)
  rw [lg_entry_eq]
  generalize (lg_sl ([.ref this, .int a0, .int a1]) ++ List.replicate (4 - (lg_sl ([.ref this, .int a0, .int a1])).length) Slot.unset).toArray = ls at hl ⊢
  have hl : lv_has ls 4 [(0, .ref this), (1, .int a0), (2, .int a1)] := hl
  refine q_gen (fun Q hQ => ?_)
  have go : ∀ (H : Heap) (locs : List Loc) (ls : Array Slot), va_P D vwCl (pq_P t σ (I, J, ri, rj, rq)) H → va_D A (pq_P t σ (I, J, ri, rj, rq)) → va_S A s.heap H locs → lv_has ls 4 [(0, .ref this), (1, .int a0), (2, .int a1)] → W p l e ({ frames := 1, cells := 0, slots := 0, locals := 22 } : Room) s m (List.toArray ([.ref this, .int a0, .int a1] : List Value)) below meth c H locs 0 0 Q (F0 m 0 ls []) := by
    intro H locs ls hP hD hS hl
    refine lv_iconst (v := 0) hx hb dX12_firstOf_0 (by decide) ?_
    refine lv_istore_n (lv' := [(3, .int 0), (0, .ref this), (1, .int a0), (2, .int a1)]) hx hb dX12_firstOf_1 rfl hl (by decide) rfl (fun ls hl => ?_)
    have L_307 : ∀ (n_306 : Nat) (x_271 : Int32) (H : Heap) (locs : List Loc) (ls : Array Slot), rg x_271 0 20 → (20 - (x_271).toInt).toNat < n_306 → GM [] tg σ I ri I ri rq → va_P D vwCl (pq_P t σ (I, J, ri, rj, rq)) H → va_D A (pq_P t σ (I, J, ri, rj, rq)) → va_S A s.heap H locs → lv_has ls 4 [(0, .ref this), (1, .int a0), (2, .int a1), (3, .int x_271)] → W p l e ({ frames := 1, cells := 0, slots := 0, locals := 22 } : Room) s m (List.toArray ([.ref this, .int a0, .int a1] : List Value)) below meth c H locs 0 0 Q (F0 m 2 ls []) := by
      intro n_306
      induction n_306 with
      | zero => intro x_271 H locs ls h_310 hm_305 hG hP hD hS hl; exact absurd hm_305 (Nat.not_lt_zero _)
      | succ n_306 ih_308 =>
        intro x_271 H locs ls h_310 hm_305 hG hP hD hS hl
        have uh_310 := h_310.1
        have vh_310 := h_310.2
        refine lv_iload_n hx hb dX12_firstOf_2 rfl (lv_at hl 3 rfl) ?_
        refine lv_aload_n hx hb dX12_firstOf_3 rfl (lv_at hl 0 rfl) ?_
        refine lv_iload_n hx hb dX12_firstOf_4 rfl (lv_at hl 1 rfl) ?_
        refine pk_i (va_runV (As := [.int a0]) (rest := [.int x_271]) ⟨hx, hb, hml, hown, hts⟩ (s_X12_clausesOf l D t σ I J ri rj rq H.size tg hSH hG.1 this a0 hL_this hK_this (rg_w h_a0 (by decide)) this_a hR_this_a hL_this_a hK_this_a hN_this_a hT_this_a) (cwV 1 hts (tw_V tw_516 tw_517 tw_518 tw_5 tw_519) rfl rfl rfl cv_yX12_clausesOf_1 ⟨Nat.le_of_ble_eq_true rfl, Nat.le_of_ble_eq_true rfl⟩) ⟨pq_blind, pq_recv hK hP hL_this hK_this (by decide) rfl, pq_pre hK hN hP hD⟩ rfl rfl hl.1 rfl (lv_room (Nat.le_of_ble_eq_true rfl)) dX12_firstOf_5 ⟨Nat.le_of_ble_eq_true rfl, Nat.le_of_ble_eq_true rfl⟩) hD hS hA (fun x_311 σ1 μ1 H locs hw_312 hP hD hS => ?_)
        obtain ⟨hu_313, hp_316, hr_315⟩ := hw_312
        obtain ⟨hu_313a, hu_313b⟩ := Prod.mk.inj hu_313
        rw [hu_313a, hu_313b] at hP hD
        have tt_317 := congrArg Int32.toInt hp_316
        refine lv_icmp_ge (tgt := 39) hx hb dX12_firstOf_8 (by decide) (fun c_318 => ?_) (fun c_318 => ?_)
        · have tc_319 : (x_311).toInt ≤ (x_271).toInt := Int32.le_iff_toInt_le.mp c_318
          refine lv_iconst (v := (-1)) hx hb dX12_firstOf_39 (by decide) ?_
          subst hQ
          exact W.iret (v := (-1)) hx hb hr (fun t1 ht hW => ⟨⟨(-1), (σ, I, J, ri, rj, rq), rfl, ⟨rfl, (Or.inl rfl), (rg_w (rg_k (-1 : Int32) (-1) rfl) (by decide))⟩, by rw [ht]; exact hP, va_K.moved hW.alike hK, hD⟩, hS.F ht⟩) hS.2.2 dX12_firstOf_40
        · have tc_320 : (x_271).toInt < (x_311).toInt := Int32.lt_iff_toInt_lt.mp (nle c_318)
          have h_321 : rg x_271 0 19 := rg_lt1 (nle c_318) h_310 hr_315 (by decide)
          have uh_321 := h_321.1
          have vh_321 := h_321.2
          have h_322 : rg x_311 1 20 := rg_lt2 (nle c_318) h_310 hr_315 (by decide)
          have uh_322 := h_322.1
          have vh_322 := h_322.2
          refine lv_aload_n hx hb dX12_firstOf_11 rfl (lv_at hl 0 rfl) ?_
          refine pg_f (v := .ref this_a) (C := RX12) (T := TX12) (N := 31) hx hb hts (tw_i inlX12) hown hK hP hL_this hK_this (by decide) rfl 0 (by decide) (hts _ (tw_c tw_176)) (pq_hv rfl hR_this_a) dX12_firstOf_12 ?_
          refine lv_aload_n hx hb dX12_firstOf_15 rfl (lv_at hl 0 rfl) ?_
          refine lv_iload_n hx hb dX12_firstOf_16 rfl (lv_at hl 1 rfl) ?_
          refine lv_iload_n hx hb dX12_firstOf_17 rfl (lv_at hl 3 rfl) ?_
          refine pk_i (va_runV (As := [.int a0, .int x_271]) (rest := [.ref this_a]) ⟨hx, hb, hml, hown, hts⟩ (s_X12_clauseAt l D t σ I J ri rj rq H.size tg hSH hG.1 this a0 x_271 hL_this hK_this (rg_w h_a0 (by decide)) (rg_w h_321 (by decide))) (cwV 2 hts (tw_V tw_520 tw_521 tw_522 tw_5 tw_523) rfl rfl rfl cv_yX12_clauseAt_2 ⟨Nat.le_of_ble_eq_true rfl, Nat.le_of_ble_eq_true rfl⟩) ⟨pq_blind, pq_recv hK hP hL_this hK_this (by decide) rfl, pq_pre hK hN hP hD⟩ rfl rfl hl.1 rfl (lv_room (Nat.le_of_ble_eq_true rfl)) dX12_firstOf_18 ⟨Nat.le_of_ble_eq_true rfl, Nat.le_of_ble_eq_true rfl⟩) hD hS hA (fun x_323 σ1 μ1 H locs hw_324 hP hD hS => ?_)
          obtain ⟨hu_325, hp_328, hr_327⟩ := hw_324
          obtain ⟨hu_325a, hu_325b⟩ := Prod.mk.inj hu_325
          rw [hu_325a, hu_325b] at hP hD
          have tt_329 := hp_328
          refine pl_i hx hb hK hP hL_this_a hK_this_a hN_this_a (rg_in hr_327 (by decide)) dX12_firstOf_21 ?_
          refine lv_topi (fun x_330 ex_330 => ?_)
          refine lv_iload_n hx hb dX12_firstOf_22 rfl (lv_at hl 2 rfl) ?_
          refine lv_icmp_ne (tgt := 33) hx hb dX12_firstOf_23 (by decide) (fun c_331 => ?_) (fun c_331 => ?_)
          · have tc_332 : (x_330).toInt ≠ (a1).toInt := fun q => c_331 (Int32.toInt_inj.mp q)
            obtain ⟨x_333, ex_333⟩ : ∃ y : Int32, y = x_271 + Int32.ofInt 1 := ⟨_, rfl⟩
            have h_334 : rg x_333 1 20 := rg_of_eq ex_333 (rg_add h_321 (rg_k (Int32.ofInt 1) 1 rfl) (by decide))
            have uh_334 := h_334.1
            have vh_334 := h_334.2
            have tx_333 : (x_333).toInt = (x_271).toInt + 1 := by rw [ex_333]; exact i_add_rg (a2 := (x_271).toInt) (b2 := 1) rfl rfl h_321 (rg_k (Int32.ofInt 1) 1 rfl) (by decide)
            refine lv_iinc (v := x_333) (lv' := [(3, .int x_333), (0, .ref this), (1, .int a0), (2, .int a1)]) hx hb dX12_firstOf_33 hl (k := 3) rfl ex_333.symm (by decide) rfl (fun ls hl => ?_)
            refine lv_goto (tgt := 2) hx hb dX12_firstOf_36 (by decide) ?_
            exact ih_308 x_333 _ _ _ (rg_w h_334 (by decide)) (ms_up 1 hm_305 ex_333 rfl (by decide) h_321 (by decide) (by decide)) hG hP hD hS (lv_sub hl [1, 2, 3, 0] rfl)
          · have tc_335 : (x_330).toInt = (a1).toInt := congrArg Int32.toInt c_331
            refine lv_aload_n hx hb dX12_firstOf_26 rfl (lv_at hl 0 rfl) ?_
            refine lv_iload_n hx hb dX12_firstOf_27 rfl (lv_at hl 1 rfl) ?_
            refine lv_iload_n hx hb dX12_firstOf_28 rfl (lv_at hl 3 rfl) ?_
            refine pk_i (va_runV (As := [.int a0, .int x_271]) (rest := []) ⟨hx, hb, hml, hown, hts⟩ (s_X12_clauseAt l D t σ I J ri rj rq H.size tg hSH hG.1 this a0 x_271 hL_this hK_this (rg_w h_a0 (by decide)) (rg_w h_321 (by decide))) (cwV 2 hts (tw_V tw_520 tw_521 tw_522 tw_5 tw_523) rfl rfl rfl cv_yX12_clauseAt_2 ⟨Nat.le_of_ble_eq_true rfl, Nat.le_of_ble_eq_true rfl⟩) ⟨pq_blind, pq_recv hK hP hL_this hK_this (by decide) rfl, pq_pre hK hN hP hD⟩ rfl rfl hl.1 rfl (lv_room (Nat.le_of_ble_eq_true rfl)) dX12_firstOf_29 ⟨Nat.le_of_ble_eq_true rfl, Nat.le_of_ble_eq_true rfl⟩) hD hS hA (fun x_336 σ1 μ1 H locs hw_337 hP hD hS => ?_)
            obtain ⟨hu_338, hp_341, hr_340⟩ := hw_337
            obtain ⟨hu_338a, hu_338b⟩ := Prod.mk.inj hu_338
            rw [hu_338a, hu_338b] at hP hD
            have tt_342 := hp_341
            subst hQ
            exact W.iret (v := x_336) hx hb hr (fun t1 ht hW => ⟨⟨x_336, (σ, I, J, ri, rj, rq), rfl, ⟨rfl, (Or.inr ⟨x_271.toNatClampNeg, by have z0 := clampE x_271; omega, by have z0 := clampE x_271; omega, by have z0 := clampE x_271; omega⟩), (rg_w hr_340 (by decide))⟩, by rw [ht]; exact hP, va_K.moved hW.alike hK, hD⟩, hS.F ht⟩) hS.2.2 dX12_firstOf_32
    exact L_307 _ (0 : Int32) _ _ _ (rg_w (rg_k (0 : Int32) 0 rfl) (by decide)) (Nat.lt_succ_self _) hG hP hD hS (lv_sub hl [1, 2, 3, 0] rfl)
  exact go _ _ _ hP hD hS hl
