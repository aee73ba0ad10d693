theorem dX12_hasParen_0 : decode cX12_hasParen 0 = .ok (.iconst 0, 1) := oc_3 (by decide +kernel)
theorem dX12_hasParen_1 : decode cX12_hasParen 1 = .ok (.istore_n 1, 1) := oc_60 (by decide +kernel)
theorem dX12_hasParen_2 : decode cX12_hasParen 2 = .ok (.iload_n 1, 1) := oc_27 (by decide +kernel)
theorem dX12_hasParen_3 : decode cX12_hasParen 3 = .ok (.aload_n 0, 1) := oc_42 (by decide +kernel)
theorem dX12_hasParen_4 : decode cX12_hasParen 4 = .ok (.getfield 178, 3) := oc_180 (a := 0) (b := 178) (by decide +kernel)
theorem dX12_hasParen_7 : decode cX12_hasParen 7 = .ok (.if_icmp .ge 22, 3) := oc_162 (a := 0) (b := 22) (by decide +kernel)
theorem dX12_hasParen_29 : decode cX12_hasParen 29 = .ok (.iconst 0, 1) := oc_3 (by decide +kernel)
theorem dX12_hasParen_30 : decode cX12_hasParen 30 = .ok (.ireturn, 1) := oc_172 (by decide +kernel)
theorem dX12_hasParen_10 : decode cX12_hasParen 10 = .ok (.aload_n 0, 1) := oc_42 (by decide +kernel)
theorem dX12_hasParen_11 : decode cX12_hasParen 11 = .ok (.getfield 29, 3) := oc_180 (a := 0) (b := 29) (by decide +kernel)
theorem dX12_hasParen_14 : decode cX12_hasParen 14 = .ok (.iload_n 1, 1) := oc_27 (by decide +kernel)
theorem dX12_hasParen_15 : decode cX12_hasParen 15 = .ok (.iaload, 1) := oc_46 (by decide +kernel)
theorem dX12_hasParen_16 : decode cX12_hasParen 16 = .ok (.bipush 40, 2) := oc_16 (a := 40) (by decide +kernel)
theorem dX12_hasParen_18 : decode cX12_hasParen 18 = .ok (.if_icmp .ne 5, 3) := oc_160 (a := 0) (b := 5) (by decide +kernel)
theorem dX12_hasParen_23 : decode cX12_hasParen 23 = .ok (.iinc 1 1, 3) := oc_132 (b := 1) (by decide +kernel)
theorem dX12_hasParen_26 : decode cX12_hasParen 26 = .ok (.goto (-24), 3) := oc_167 (a := 255) (b := 232) (by decide +kernel)
theorem dX12_hasParen_21 : decode cX12_hasParen 21 = .ok (.iconst 1, 1) := oc_4 (by decide +kernel)
theorem dX12_hasParen_22 : decode cX12_hasParen 22 = .ok (.ireturn, 1) := oc_172 (by decide +kernel)
theorem dX12_goesOn_0 : decode cX12_goesOn 0 = .ok (.aload_n 0, 1) := oc_42 (by decide +kernel)
theorem dX12_goesOn_1 : decode cX12_goesOn 1 = .ok (.getfield 143, 3) := oc_180 (a := 0) (b := 143) (by decide +kernel)
theorem dX12_goesOn_4 : decode cX12_goesOn 4 = .ok (.bipush 43, 2) := oc_16 (a := 43) (by decide +kernel)
theorem dX12_goesOn_6 : decode cX12_goesOn 6 = .ok (.if_icmp .eq 46, 3) := oc_159 (a := 0) (b := 46) (by decide +kernel)
theorem dX12_goesOn_52 : decode cX12_goesOn 52 = .ok (.iconst 1, 1) := oc_4 (by decide +kernel)
theorem dX12_goesOn_53 : decode cX12_goesOn 53 = .ok (.goto 4, 3) := oc_167 (a := 0) (b := 4) (by decide +kernel)
theorem dX12_goesOn_57 : decode cX12_goesOn 57 = .ok (.ireturn, 1) := oc_172 (by decide +kernel)
theorem dX12_goesOn_9 : decode cX12_goesOn 9 = .ok (.aload_n 0, 1) := oc_42 (by decide +kernel)
theorem dX12_goesOn_10 : decode cX12_goesOn 10 = .ok (.getfield 143, 3) := oc_180 (a := 0) (b := 143) (by decide +kernel)
theorem dX12_goesOn_13 : decode cX12_goesOn 13 = .ok (.bipush 45, 2) := oc_16 (a := 45) (by decide +kernel)
theorem dX12_goesOn_15 : decode cX12_goesOn 15 = .ok (.if_icmp .eq 37, 3) := oc_159 (a := 0) (b := 37) (by decide +kernel)
theorem dX12_goesOn_18 : decode cX12_goesOn 18 = .ok (.aload_n 0, 1) := oc_42 (by decide +kernel)
theorem dX12_goesOn_19 : decode cX12_goesOn 19 = .ok (.getfield 143, 3) := oc_180 (a := 0) (b := 143) (by decide +kernel)
theorem dX12_goesOn_22 : decode cX12_goesOn 22 = .ok (.bipush 42, 2) := oc_16 (a := 42) (by decide +kernel)
theorem dX12_goesOn_24 : decode cX12_goesOn 24 = .ok (.if_icmp .eq 28, 3) := oc_159 (a := 0) (b := 28) (by decide +kernel)
theorem dX12_goesOn_27 : decode cX12_goesOn 27 = .ok (.aload_n 0, 1) := oc_42 (by decide +kernel)
theorem dX12_goesOn_28 : decode cX12_goesOn 28 = .ok (.getfield 143, 3) := oc_180 (a := 0) (b := 143) (by decide +kernel)
theorem dX12_goesOn_31 : decode cX12_goesOn 31 = .ok (.bipush 47, 2) := oc_16 (a := 47) (by decide +kernel)
theorem dX12_goesOn_33 : decode cX12_goesOn 33 = .ok (.if_icmp .eq 19, 3) := oc_159 (a := 0) (b := 19) (by decide +kernel)
theorem dX12_goesOn_36 : decode cX12_goesOn 36 = .ok (.aload_n 0, 1) := oc_42 (by decide +kernel)
theorem dX12_goesOn_37 : decode cX12_goesOn 37 = .ok (.getfield 143, 3) := oc_180 (a := 0) (b := 143) (by decide +kernel)
theorem dX12_goesOn_40 : decode cX12_goesOn 40 = .ok (.bipush 41, 2) := oc_16 (a := 41) (by decide +kernel)
theorem dX12_goesOn_42 : decode cX12_goesOn 42 = .ok (.if_icmp .ne 14, 3) := oc_160 (a := 0) (b := 14) (by decide +kernel)
theorem dX12_goesOn_56 : decode cX12_goesOn 56 = .ok (.iconst 0, 1) := oc_3 (by decide +kernel)
theorem dX12_goesOn_45 : decode cX12_goesOn 45 = .ok (.aload_n 0, 1) := oc_42 (by decide +kernel)
theorem tw_893 : Cond.methodLink RX12 205 yX12_hasParen ∈ wsL_law := sg_38 _ (List.mem_of_getElem? (i := 5) rfl)
theorem tw_894 : Cond.instanceMethod yX12_hasParen ∈ wsL_law := sg_38 _ (List.mem_of_getElem? (i := 6) rfl)
theorem tw_895 : Cond.selects RX12 yX12_hasParen yX12_hasParen ∈ wsL_law := sg_38 _ (List.mem_of_getElem? (i := 7) rfl)
theorem tw_896 : Cond.code yX12_hasParen cX12_hasParen 2 (some .boolean) ∈ wsL_law := sg_38 _ (List.mem_of_getElem? (i := 8) rfl)
theorem dX12_goesOn_46 : decode cX12_goesOn 46 = .ok (.invokevirtual 205, 3) := oc_182 (a := 0) (b := 205) (by decide +kernel)
theorem dX12_goesOn_49 : decode cX12_goesOn 49 = .ok (.ifCond .eq 7, 3) := oc_153 (a := 0) (b := 7) (by decide +kernel)
theorem dX12_beginOne_0 : decode cX12_beginOne 0 = .ok (.aload_n 0, 1) := oc_42 (by decide +kernel)
theorem dX12_beginOne_1 : decode cX12_beginOne 1 = .ok (.getfield 143, 3) := oc_180 (a := 0) (b := 143) (by decide +kernel)
theorem dX12_beginOne_4 : decode cX12_beginOne 4 = .ok (.iconst 1, 1) := oc_4 (by decide +kernel)
theorem dX12_beginOne_5 : decode cX12_beginOne 5 = .ok (.if_icmp .ne 15, 3) := oc_160 (a := 0) (b := 15) (by decide +kernel)
theorem dX12_beginOne_20 : decode cX12_beginOne 20 = .ok (.aload_n 0, 1) := oc_42 (by decide +kernel)
theorem dX12_beginOne_21 : decode cX12_beginOne 21 = .ok (.getfield 143, 3) := oc_180 (a := 0) (b := 143) (by decide +kernel)
theorem dX12_beginOne_24 : decode cX12_beginOne 24 = .ok (.iconst 1, 1) := oc_4 (by decide +kernel)
theorem dX12_beginOne_25 : decode cX12_beginOne 25 = .ok (.if_icmp .eq 10, 3) := oc_159 (a := 0) (b := 10) (by decide +kernel)
theorem dX12_beginOne_35 : decode cX12_beginOne 35 = .ok (.aload_n 0, 1) := oc_42 (by decide +kernel)
theorem dX12_beginOne_36 : decode cX12_beginOne 36 = .ok (.aload_n 0, 1) := oc_42 (by decide +kernel)
theorem dX12_beginOne_37 : decode cX12_beginOne 37 = .ok (.getfield 143, 3) := oc_180 (a := 0) (b := 143) (by decide +kernel)
theorem dX12_beginOne_40 : decode cX12_beginOne 40 = .ok (.iconst 1, 1) := oc_4 (by decide +kernel)
theorem dX12_beginOne_41 : decode cX12_beginOne 41 = .ok (.if_icmp .ne 7, 3) := oc_160 (a := 0) (b := 7) (by decide +kernel)
theorem dX12_beginOne_44 : decode cX12_beginOne 44 = .ok (.iconst 0, 1) := oc_3 (by decide +kernel)
theorem dX12_beginOne_45 : decode cX12_beginOne 45 = .ok (.goto 4, 3) := oc_167 (a := 0) (b := 4) (by decide +kernel)
theorem dX12_beginOne_49 : decode cX12_beginOne 49 = .ok (.aload_n 0, 1) := oc_42 (by decide +kernel)
theorem dX12_beginOne_50 : decode cX12_beginOne 50 = .ok (.getfield 143, 3) := oc_180 (a := 0) (b := 143) (by decide +kernel)
theorem dX12_beginOne_53 : decode cX12_beginOne 53 = .ok (.iconst 1, 1) := oc_4 (by decide +kernel)
theorem dX12_beginOne_54 : decode cX12_beginOne 54 = .ok (.if_icmp .ne 10, 3) := oc_160 (a := 0) (b := 10) (by decide +kernel)
theorem dX12_beginOne_57 : decode cX12_beginOne 57 = .ok (.aload_n 0, 1) := oc_42 (by decide +kernel)
theorem dX12_beginOne_58 : decode cX12_beginOne 58 = .ok (.getfield 149, 3) := oc_180 (a := 0) (b := 149) (by decide +kernel)
theorem dX12_beginOne_61 : decode cX12_beginOne 61 = .ok (.goto 7, 3) := oc_167 (a := 0) (b := 7) (by decide +kernel)
theorem dX12_beginOne_68 : decode cX12_beginOne 68 = .ok (.invokevirtual 188, 3) := oc_182 (a := 0) (b := 188) (by decide +kernel)
theorem dX12_beginOne_71 : decode cX12_beginOne 71 = .ok (.aload_n 0, 1) := oc_42 (by decide +kernel)
theorem tw_832 : Cond.methodLink RX12 196 yX12_nextToken ∈ wsL_law := sg_35 _ (List.mem_of_getElem? (i := 16) rfl)
theorem tw_833 : Cond.instanceMethod yX12_nextToken ∈ wsL_law := sg_35 _ (List.mem_of_getElem? (i := 17) rfl)
theorem tw_834 : Cond.selects RX12 yX12_nextToken yX12_nextToken ∈ wsL_law := sg_35 _ (List.mem_of_getElem? (i := 18) rfl)
theorem tw_835 : Cond.code yX12_nextToken cX12_nextToken 3 none ∈ wsL_law := sg_35 _ (List.mem_of_getElem? (i := 19) rfl)
theorem dX12_beginOne_72 : decode cX12_beginOne 72 = .ok (.invokevirtual 196, 3) := oc_182 (a := 0) (b := 196) (by decide +kernel)
theorem dX12_beginOne_75 : decode cX12_beginOne 75 = .ok (.aload_n 0, 1) := oc_42 (by decide +kernel)
theorem tw_909 : Cond.methodLink RX12 199 yX12_whole ∈ wsL_law := sg_38 _ (List.mem_of_getElem? (i := 21) rfl)
theorem tw_910 : Cond.instanceMethod yX12_whole ∈ wsL_law := sg_38 _ (List.mem_of_getElem? (i := 22) rfl)
theorem tw_911 : Cond.selects RX12 yX12_whole yX12_whole ∈ wsL_law := sg_38 _ (List.mem_of_getElem? (i := 23) rfl)
theorem tw_912 : Cond.code yX12_whole cX12_whole 1 none ∈ wsL_law := sg_39 _ (List.mem_of_getElem? (i := 0) rfl)
theorem dX12_beginOne_76 : decode cX12_beginOne 76 = .ok (.invokevirtual 199, 3) := oc_182 (a := 0) (b := 199) (by decide +kernel)
theorem dX12_beginOne_79 : decode cX12_beginOne 79 = .ok (.iconst 0, 1) := oc_3 (by decide +kernel)
theorem dX12_beginOne_80 : decode cX12_beginOne 80 = .ok (.ireturn, 1) := oc_172 (by decide +kernel)
theorem dX12_beginOne_28 : decode cX12_beginOne 28 = .ok (.aload_n 0, 1) := oc_42 (by decide +kernel)
theorem tw_921 : Cond.methodLink RX12 192 yX12_nameOf ∈ wsL_law := sg_39 _ (List.mem_of_getElem? (i := 9) rfl)
theorem tw_922 : Cond.instanceMethod yX12_nameOf ∈ wsL_law := sg_39 _ (List.mem_of_getElem? (i := 10) rfl)
theorem tw_923 : Cond.selects RX12 yX12_nameOf yX12_nameOf ∈ wsL_law := sg_39 _ (List.mem_of_getElem? (i := 11) rfl)
theorem tw_924 : Cond.code yX12_nameOf cX12_nameOf 1 (some .int) ∈ wsL_law := sg_39 _ (List.mem_of_getElem? (i := 12) rfl)
theorem dX12_beginOne_29 : decode cX12_beginOne 29 = .ok (.invokevirtual 192, 3) := oc_182 (a := 0) (b := 192) (by decide +kernel)
theorem dX12_beginOne_32 : decode cX12_beginOne 32 = .ok (.ifCond .lt 49, 3) := oc_155 (a := 0) (b := 49) (by decide +kernel)
theorem dX12_beginOne_81 : decode cX12_beginOne 81 = .ok (.aload_n 0, 1) := oc_42 (by decide +kernel)
theorem dX12_beginOne_82 : decode cX12_beginOne 82 = .ok (.getfield 143, 3) := oc_180 (a := 0) (b := 143) (by decide +kernel)
theorem dX12_beginOne_85 : decode cX12_beginOne 85 = .ok (.bipush 40, 2) := oc_16 (a := 40) (by decide +kernel)
theorem dX12_beginOne_87 : decode cX12_beginOne 87 = .ok (.if_icmp .eq 14, 3) := oc_159 (a := 0) (b := 14) (by decide +kernel)
theorem dX12_beginOne_101 : decode cX12_beginOne 101 = .ok (.aload_n 0, 1) := oc_42 (by decide +kernel)
theorem dX12_beginOne_102 : decode cX12_beginOne 102 = .ok (.getfield 185, 3) := oc_180 (a := 0) (b := 185) (by decide +kernel)
theorem dX12_beginOne_105 : decode cX12_beginOne 105 = .ok (.bipush 8, 2) := oc_16 (a := 8) (by decide +kernel)
theorem dX12_beginOne_107 : decode cX12_beginOne 107 = .ok (.if_icmp .ne 5, 3) := oc_160 (a := 0) (b := 5) (by decide +kernel)
theorem dX12_beginOne_112 : decode cX12_beginOne 112 = .ok (.aload_n 0, 1) := oc_42 (by decide +kernel)
theorem dX12_beginOne_113 : decode cX12_beginOne 113 = .ok (.dup, 1) := oc_89 (by decide +kernel)
theorem dX12_beginOne_114 : decode cX12_beginOne 114 = .ok (.getfield 185, 3) := oc_180 (a := 0) (b := 185) (by decide +kernel)
theorem dX12_beginOne_117 : decode cX12_beginOne 117 = .ok (.iconst 1, 1) := oc_4 (by decide +kernel)
theorem dX12_beginOne_118 : decode cX12_beginOne 118 = .ok (.iadd, 1) := oc_96 (by decide +kernel)
theorem dX12_beginOne_119 : decode cX12_beginOne 119 = .ok (.putfield 185, 3) := oc_181 (a := 0) (b := 185) (by decide +kernel)
theorem dX12_beginOne_122 : decode cX12_beginOne 122 = .ok (.aload_n 0, 1) := oc_42 (by decide +kernel)
theorem dX12_beginOne_123 : decode cX12_beginOne 123 = .ok (.aload_n 0, 1) := oc_42 (by decide +kernel)
theorem dX12_beginOne_124 : decode cX12_beginOne 124 = .ok (.getfield 143, 3) := oc_180 (a := 0) (b := 143) (by decide +kernel)
theorem dX12_beginOne_127 : decode cX12_beginOne 127 = .ok (.bipush 40, 2) := oc_16 (a := 40) (by decide +kernel)
theorem dX12_beginOne_129 : decode cX12_beginOne 129 = .ok (.if_icmp .ne 8, 3) := oc_160 (a := 0) (b := 8) (by decide +kernel)
theorem dX12_beginOne_132 : decode cX12_beginOne 132 = .ok (.bipush 40, 2) := oc_16 (a := 40) (by decide +kernel)
theorem dX12_beginOne_134 : decode cX12_beginOne 134 = .ok (.goto 4, 3) := oc_167 (a := 0) (b := 4) (by decide +kernel)
theorem tw_913 : Cond.methodLink RX12 202 yX12_push ∈ wsL_law := sg_39 _ (List.mem_of_getElem? (i := 1) rfl)
theorem tw_914 : Cond.instanceMethod yX12_push ∈ wsL_law := sg_39 _ (List.mem_of_getElem? (i := 2) rfl)
theorem tw_915 : Cond.selects RX12 yX12_push yX12_push ∈ wsL_law := sg_39 _ (List.mem_of_getElem? (i := 3) rfl)
theorem tw_916 : Cond.code yX12_push cX12_push 2 none ∈ wsL_law := sg_39 _ (List.mem_of_getElem? (i := 4) rfl)
theorem dX12_beginOne_138 : decode cX12_beginOne 138 = .ok (.invokevirtual 202, 3) := oc_182 (a := 0) (b := 202) (by decide +kernel)
theorem dX12_beginOne_141 : decode cX12_beginOne 141 = .ok (.aload_n 0, 1) := oc_42 (by decide +kernel)
theorem dX12_beginOne_142 : decode cX12_beginOne 142 = .ok (.invokevirtual 196, 3) := oc_182 (a := 0) (b := 196) (by decide +kernel)
theorem dX12_beginOne_145 : decode cX12_beginOne 145 = .ok (.iconst 0, 1) := oc_3 (by decide +kernel)
theorem dX12_beginOne_146 : decode cX12_beginOne 146 = .ok (.ireturn, 1) := oc_172 (by decide +kernel)
theorem dX12_beginOne_110 : decode cX12_beginOne 110 = .ok (.iconst 3, 1) := oc_6 (by decide +kernel)
theorem dX12_beginOne_111 : decode cX12_beginOne 111 = .ok (.ireturn, 1) := oc_172 (by decide +kernel)
theorem dX12_beginOne_90 : decode cX12_beginOne 90 = .ok (.aload_n 0, 1) := oc_42 (by decide +kernel)
theorem dX12_beginOne_91 : decode cX12_beginOne 91 = .ok (.getfield 143, 3) := oc_180 (a := 0) (b := 143) (by decide +kernel)
theorem dX12_beginOne_94 : decode cX12_beginOne 94 = .ok (.bipush 45, 2) := oc_16 (a := 45) (by decide +kernel)
theorem dX12_beginOne_96 : decode cX12_beginOne 96 = .ok (.if_icmp .eq 5, 3) := oc_159 (a := 0) (b := 5) (by decide +kernel)
theorem dX12_beginOne_137 : decode cX12_beginOne 137 = .ok (.iconst 2, 1) := oc_5 (by decide +kernel)
theorem dX12_beginOne_99 : decode cX12_beginOne 99 = .ok (.iconst 1, 1) := oc_4 (by decide +kernel)
theorem dX12_beginOne_100 : decode cX12_beginOne 100 = .ok (.ireturn, 1) := oc_172 (by decide +kernel)
theorem dX12_beginOne_48 : decode cX12_beginOne 48 = .ok (.iconst 1, 1) := oc_4 (by decide +kernel)
theorem dX12_beginOne_64 : decode cX12_beginOne 64 = .ok (.aload_n 0, 1) := oc_42 (by decide +kernel)
theorem dX12_beginOne_65 : decode cX12_beginOne 65 = .ok (.invokevirtual 192, 3) := oc_182 (a := 0) (b := 192) (by decide +kernel)
theorem dX12_beginOne_8 : decode cX12_beginOne 8 = .ok (.aload_n 0, 1) := oc_42 (by decide +kernel)
theorem dX12_beginOne_9 : decode cX12_beginOne 9 = .ok (.getfield 149, 3) := oc_180 (a := 0) (b := 149) (by decide +kernel)
theorem dX12_beginOne_12 : decode cX12_beginOne 12 = .ok (.sipush 9999, 3) := oc_17 (a := 39) (b := 15) (by decide +kernel)
theorem dX12_beginOne_15 : decode cX12_beginOne 15 = .ok (.if_icmp .le 5, 3) := oc_164 (a := 0) (b := 5) (by decide +kernel)
theorem dX12_beginOne_18 : decode cX12_beginOne 18 = .ok (.iconst 2, 1) := oc_5 (by decide +kernel)
theorem dX12_beginOne_19 : decode cX12_beginOne 19 = .ok (.ireturn, 1) := oc_172 (by decide +kernel)
set_option maxRecDepth 100000 in
def g_X12_hasParen_L2 (I : Nat → Int32) (J : Nat → Int64) (ri : Nat → Nat → Int32) (rj : Nat → Nat → Int64) (rq : Nat → Nat → Option Nat) : Nat → (Int32) → Int32 × vM
  | 0, x_341 => ((0 : Int32), I, J, ri, rj, rq)
  | n_360 + 1, x_341 => (ap1 (I 401) fun (y_366 : Int32) => (if (y_366) ≤ x_341 then ((0 : Int32), I, J, ri, rj, rq) else (ap1 (ri 400 (x_341).toNatClampNeg) fun (x_376 : Int32) => (if x_376 = (40 : Int32) then ((1 : Int32), I, J, ri, rj, rq) else (ap1 (x_341 + Int32.ofInt 1) fun (x_385 : Int32) => ((g_X12_hasParen_L2 I J ri rj rq n_360) x_385))))))
set_option maxRecDepth 100000 in
theorem g_X12_hasParen_L2_e {I : Nat → Int32} {J : Nat → Int64} {ri : Nat → Nat → Int32} {rj : Nat → Nat → Int64} {rq : Nat → Nat → Option Nat} {n_360 : Nat} {x_341 : Int32} : g_X12_hasParen_L2 I J ri rj rq (n_360 + 1) x_341 = (ap1 (I 401) fun (y_366 : Int32) => (if (y_366) ≤ x_341 then ((0 : Int32), I, J, ri, rj, rq) else (ap1 (ri 400 (x_341).toNatClampNeg) fun (x_376 : Int32) => (if x_376 = (40 : Int32) then ((1 : Int32), I, J, ri, rj, rq) else (ap1 (x_341 + Int32.ofInt 1) fun (x_385 : Int32) => ((g_X12_hasParen_L2 I J ri rj rq n_360) x_385)))))) := rfl
set_option maxRecDepth 100000 in
def g_X12_hasParen (I : Nat → Int32) (J : Nat → Int64) (ri : Nat → Nat → Int32) (rj : Nat → Nat → Int64) (rq : Nat → Nat → Option Nat) : Int32 × vM := (g_X12_hasParen_L2 I J ri rj rq ((160 - ((0 : Int32)).toInt).toNat + 1) (0 : Int32))
set_option maxRecDepth 100000 in
theorem g_X12_hasParen_e {I : Nat → Int32} {J : Nat → Int64} {ri : Nat → Nat → Int32} {rj : Nat → Nat → Int64} {rq : Nat → Nat → Option Nat} : g_X12_hasParen I J ri rj rq = (g_X12_hasParen_L2 I J ri rj rq ((160 - ((0 : Int32)).toInt).toNat + 1) (0 : Int32)) := rfl
set_option maxHeartbeats 4000000 in
set_option maxRecDepth 100000 in
theorem s_X12_hasParen (l : Launch) (D : va_G) (t : pq_T) (σ : pq_S) (I : Nat → Nat → Int32) (J : Nat → Nat → Int64) (ri : Nat → Nat → Int32) (rj : Nat → Nat → Int64) (rq : Nat → Nat → Option Nat) (sz : Nat) (tg : Nat → Nat) (hSH : SH σ tg) (hG0 : GT tg I ri) (this : Nat) (hL_this : this ∈ σ.1) (hK_this : σ.2.1 this = 12) (this_pile : Nat) (hR_this_pile : σ.2.2.1 400 this = some this_pile) (hL_this_pile : this_pile ∈ σ.1) (hK_this_pile : σ.2.1 this_pile = 13) (hN_this_pile : σ.2.2.2 this_pile = 160) (hT_this_pile : tg this_pile = 400) : MetI l yX12_hasParen (wa yX12_hasParen cX12_hasParen 2 (some .boolean)) ({ frames := 0, cells := 0, slots := 0, locals := 0 }) [.ref this] D t σ (I, J, ri, rj, rq) sz 0 0 (fun (r : Int32) (u : pq_S × pq_M) => u = (σ, I, J, ri, rj, rq) ∧ g_X12_hasParen (vI 12 σ this I) (vJ 12 σ this J) (vR 12 σ this ri) (vL 12 σ this rj) (vQ 12 σ this rq) = (r, (vI 12 σ this I), (vJ 12 σ this J), (vR 12 σ this ri), (vL 12 σ this rj), (vQ 12 σ this rq)) ∧ ((r = 1 ∧ (∃ k : Nat, (k : Int) < (I 401 this).toInt ∧ (ri this_pile k).toInt = 40)) ∨ (r = 0 ∧ True))) := by
  refine Met.ofW (cc := cX12_hasParen) (maxL := 2) (ret := (some .boolean)) (by decide) rfl ?_
  intro p e s m args below meth c s₁ B hml hv
  obtain ⟨rfl, hsz, hP, hK, hD0, hN⟩ := hv
  have hx := B.exec
  have hb := B.bytes
  have hr := B.returns
  have hts := atoms_spec (ws := (wa yX12_hasParen cX12_hasParen 2 (some .boolean))) B.pre
  have hown : s.vm.findClass RX12 = some m.cls := findClass_of_methodNamed B.named
  have hlocks := B.notSynchronized
  subst hsz
  have hD : va_D (pq_B t σ (I, J, ri, rj, rq) s.heap.size) (pq_P t σ (I, J, ri, rj, rq)) := hD0.self
  generalize hAe : pq_B t σ (I, J, ri, rj, rq) s.heap.size = A at hD ⊢
  have hA : ∀ q : Nat, s.heap.size ≤ q → A q := fun q h => by rw [← hAe]; exact Or.inr h
  have hS : va_S A s.heap s.heap [] := va_S.rf
  have hG : GM [] tg σ I ri I ri rq := ⟨hG0, fun _ _ _ => rfl, fun _ _ _ _ _ => rfl, fun _ _ _ _ _ _ => rfl⟩
  have hl := lv_entry ([.ref this]) (n := 2) (Nat.le_of_ble_eq_true rfl)
  rw [lg_entry_eq]
  generalize (lg_sl ([.ref this]) ++ List.replicate (2 - (lg_sl ([.ref this])).length) Slot.unset).toArray = ls at hl ⊢
  have hl : lv_has ls 2 [(0, .ref this)] := hl
  refine q_gen (fun Q hQ => ?_)
  have go : ∀ (H : Heap) (locs : List Loc) (ls : Array Slot), va_P D vwCl (pq_P t σ (I, J, ri, rj, rq)) H → va_D A (pq_P t σ (I, J, ri, rj, rq)) → va_S A s.heap H locs → lv_has ls 2 [(0, .ref this)] → W p l e ({ frames := 0, cells := 0, slots := 0, locals := 0 } : Room) s m (List.toArray ([.ref this] : List Value)) below meth c H locs 0 0 Q (F0 m 0 ls []) := by
    intro H locs ls hP hD hS hl
    have hO_this : this = vo σ 12 this := rfl
    have hVT : VT 12 σ tg this := vt_12 hSH hL_this hK_this
    have hFr : FR 12 tg σ this (I, J, ri, rj, rq) (I, J, ri, rj, rq) := fr_rf
    have hO_this_pile : this_pile = vrow σ 400 this := vo_k (c := 12) hO_this hR_this_pile
    obtain ⟨F, hF0⟩ : ∃ F, F = g_X12_hasParen (vI 12 σ this I) (vJ 12 σ this J) (vR 12 σ this ri) (vL 12 σ this rj) (vQ 12 σ this rq) := ⟨_, rfl⟩
    have hF := hF0.trans g_X12_hasParen_e
    refine lv_iconst (v := 0) hx hb dX12_hasParen_0 (by decide) ?_
    refine lv_istore_n (lv' := [(1, .int 0), (0, .ref this)]) hx hb dX12_hasParen_1 rfl hl (by decide) rfl (fun ls hl => ?_)
    have L_361 : ∀ (n_360 : Nat) (x_341 : Int32) (H : Heap) (locs : List Loc) (ls : Array Slot), rg x_341 0 160 → (160 - (x_341).toInt).toNat < n_360 → F = g_X12_hasParen_L2 (vI 12 σ this I) (vJ 12 σ this J) (vR 12 σ this ri) (vL 12 σ this rj) (vQ 12 σ this rq) n_360 x_341 → FR 12 tg σ this (I, J, ri, rj, rq) (I, J, ri, rj, rq) → GM [] tg σ I ri I ri rq → va_P D vwCl (pq_P t σ (I, J, ri, rj, rq)) H → va_D A (pq_P t σ (I, J, ri, rj, rq)) → va_S A s.heap H locs → lv_has ls 2 [(0, .ref this), (1, .int x_341)] → W p l e ({ frames := 0, cells := 0, slots := 0, locals := 0 } : Room) s m (List.toArray ([.ref this] : List Value)) below meth c H locs 0 0 Q (F0 m 2 ls []) := by
      intro n_360
      induction n_360 with
      | zero => intro x_341 H locs ls h_364 hm_359 hF hFr hG hP hD hS hl; exact absurd hm_359 (Nat.not_lt_zero _)
      | succ n_360 ih_362 =>
        intro x_341 H locs ls h_364 hm_359 hF hFr hG hP hD hS hl
        have uh_364 := h_364.1
        have vh_364 := h_364.2
        replace hF := hF.trans g_X12_hasParen_L2_e
        refine lv_iload_n hx hb dX12_hasParen_2 rfl (lv_at hl 1 rfl) ?_
        refine lv_aload_n hx hb dX12_hasParen_3 rfl (lv_at hl 0 rfl) ?_
        refine pg_f (v := .int (I 401 this)) (C := RX12) (T := TX12) (N := 31) hx hb hts (tw_i inlX12) hown hK hP hL_this hK_this (by decide) rfl 17 (by decide) (hts _ (tw_c tw_887)) rfl dX12_hasParen_4 ?_
        have h_365 : rg (I 401 this) 0 160 := GM.rI hG 401 rfl
        have uh_365 := h_365.1
        have vh_365 := h_365.2
        replace hF := hF.trans (ap_n (vI_e (f := 401) hO_this (by decide)))
        refine lv_icmp_ge (tgt := 29) hx hb dX12_hasParen_7 (by decide) (fun c_367 => ?_) (fun c_367 => ?_)
        · replace hF := hF.trans (if_pos c_367)
          have tc_372 : (I 401 this).toInt ≤ (x_341).toInt := Int32.le_iff_toInt_le.mp c_367
          refine lv_iconst (v := 0) hx hb dX12_hasParen_29 (by decide) ?_
          subst hQ
          exact W.zret (v := 0) hx hb hr (by decide) (fun t1 ht hW => ⟨⟨0, (σ, I, J, ri, rj, rq), rfl, ⟨rfl, (hF0.symm.trans hF), (Or.inr ⟨rfl, trivial⟩)⟩, by rw [ht]; exact hP, va_K.moved hW.alike hK, hD⟩, hS.F ht⟩) hS.2.2 dX12_hasParen_30
        · replace hF := hF.trans (if_neg c_367)
          have tc_373 : (x_341).toInt < (I 401 this).toInt := Int32.lt_iff_toInt_lt.mp (nle c_367)
          have h_374 : rg x_341 0 159 := rg_lt1 (nle c_367) h_364 h_365 (by decide)
          have uh_374 := h_374.1
          have vh_374 := h_374.2
          have h_375 : rg (I 401 this) 1 160 := rg_lt2 (nle c_367) h_364 h_365 (by decide)
          have uh_375 := h_375.1
          have vh_375 := h_375.2
          refine lv_aload_n hx hb dX12_hasParen_10 rfl (lv_at hl 0 rfl) ?_
          refine pg_f (v := .ref this_pile) (C := RX12) (T := TX12) (N := 31) hx hb hts (tw_i inlX12) hown hK hP hL_this hK_this (by decide) rfl 16 (by decide) (hts _ (tw_c tw_182)) (pq_hv rfl hR_this_pile) dX12_hasParen_11 ?_
          refine lv_iload_n hx hb dX12_hasParen_14 rfl (lv_at hl 1 rfl) ?_
          refine pl_i hx hb hK hP hL_this_pile hK_this_pile hN_this_pile (rg_in h_374 (by decide)) dX12_hasParen_15 ?_
          refine lv_topi (fun x_376 ex_376 => ?_)
          replace hF := hF.trans (ap_n (vR_r hO_this_pile (by decide) ex_376))
          have ex_376 : x_376 = ri this_pile (x_341).toNatClampNeg := ex_376
          have h_377 : rg x_376 0 40 := rg_of_eq ex_376 (GM.rR hG hT_this_pile rfl)
          have uh_377 := h_377.1
          have vh_377 := h_377.2
          refine lv_bipush (v := 40) hx hb dX12_hasParen_16 (by decide) ?_
          refine lv_icmp_ne (tgt := 23) hx hb dX12_hasParen_18 (by decide) (fun c_378 => ?_) (fun c_378 => ?_)
          · replace hF := hF.trans (if_neg c_378)
            have tc_383 : (x_376).toInt ≠ 40 := fun q => c_378 (Int32.toInt_inj.mp q)
            have h_384 : rg x_376 0 39 := rg_ne c_378 h_377 40 rfl (by decide)
            have uh_384 := h_384.1
            have vh_384 := h_384.2
            obtain ⟨x_385, ex_385⟩ : ∃ y : Int32, y = x_341 + Int32.ofInt 1 := ⟨_, rfl⟩
            replace hF := hF.trans (ap_n ex_385)
            have h_386 : rg x_385 1 160 := rg_of_eq ex_385 (rg_add h_374 (rg_k (Int32.ofInt 1) 1 rfl) (by decide))
            have uh_386 := h_386.1
            have vh_386 := h_386.2
            have tx_385 : (x_385).toInt = (x_341).toInt + 1 := by rw [ex_385]; exact i_add_rg (a2 := (x_341).toInt) (b2 := 1) rfl rfl h_374 (rg_k (Int32.ofInt 1) 1 rfl) (by decide)
            refine lv_iinc (v := x_385) (lv' := [(1, .int x_385), (0, .ref this)]) hx hb dX12_hasParen_23 hl (k := 1) rfl ex_385.symm (by decide) rfl (fun ls hl => ?_)
            refine lv_goto (tgt := 2) hx hb dX12_hasParen_26 (by decide) ?_
            exact ih_362 x_385 _ _ _ (rg_w h_386 (by decide)) (ms_up 1 hm_359 ex_385 rfl (by decide) h_374 (by decide) (by decide)) hF hFr hG hP hD hS (lv_sub hl [1, 0] rfl)
          · replace hF := hF.trans (if_pos c_378)
            have tc_387 : (x_376).toInt = 40 := congrArg Int32.toInt c_378
            have h_388 : rg x_376 40 40 := rg_and h_377 (rg_of_eq c_378 (rg_k (40 : Int32) 40 rfl)) (by decide)
            have uh_388 := h_388.1
            have vh_388 := h_388.2
            refine lv_iconst (v := 1) hx hb dX12_hasParen_21 (by decide) ?_
            subst hQ
            exact W.zret (v := 1) hx hb hr (by decide) (fun t1 ht hW => ⟨⟨1, (σ, I, J, ri, rj, rq), rfl, ⟨rfl, (hF0.symm.trans hF), (Or.inl ⟨rfl, ⟨(x_341).toNatClampNeg, by have z0 := clampE x_341; omega, by rw [← ex_376]; omega⟩⟩)⟩, by rw [ht]; exact hP, va_K.moved hW.alike hK, hD⟩, hS.F ht⟩) hS.2.2 dX12_hasParen_22
    exact L_361 _ (0 : Int32) _ _ _ (rg_w (rg_k (0 : Int32) 0 rfl) (by decide)) (Nat.lt_succ_self _) hF hFr hG hP hD hS (lv_sub hl [1, 0] rfl)
  exact go _ _ _ hP hD hS hl

set_option maxRecDepth 100000 in
def g_X12_goesOn (I : Nat → Int32) (J : Nat → Int64) (ri : Nat → Nat → Int32) (rj : Nat → Nat → Int64) (rq : Nat → Nat → Option Nat) : Int32 × vM := (ap1 (I 393) fun (y_1 : Int32) => (if (y_1) = (43 : Int32) then ((1 : Int32), I, J, ri, rj, rq) else (if (y_1) = (45 : Int32) then ((1 : Int32), I, J, ri, rj, rq) else (if (y_1) = (42 : Int32) then ((1 : Int32), I, J, ri, rj, rq) else (if (y_1) = (47 : Int32) then ((1 : Int32), I, J, ri, rj, rq) else (if (y_1) = (41 : Int32) then (bnI (g_X12_hasParen I J ri rj rq) fun (x_37 : Int32) (_ : Nat → Int32) (_ : Nat → Int64) (_ : Nat → Nat → Int32) (_ : Nat → Nat → Int64) (_ : Nat → Nat → Option Nat) => (if x_37 = (0 : Int32) then ((0 : Int32), I, J, ri, rj, rq) else ((1 : Int32), I, J, ri, rj, rq))) else ((0 : Int32), I, J, ri, rj, rq)))))))
set_option maxRecDepth 100000 in
theorem g_X12_goesOn_e {I : Nat → Int32} {J : Nat → Int64} {ri : Nat → Nat → Int32} {rj : Nat → Nat → Int64} {rq : Nat → Nat → Option Nat} : g_X12_goesOn I J ri rj rq = (ap1 (I 393) fun (y_1 : Int32) => (if (y_1) = (43 : Int32) then ((1 : Int32), I, J, ri, rj, rq) else (if (y_1) = (45 : Int32) then ((1 : Int32), I, J, ri, rj, rq) else (if (y_1) = (42 : Int32) then ((1 : Int32), I, J, ri, rj, rq) else (if (y_1) = (47 : Int32) then ((1 : Int32), I, J, ri, rj, rq) else (if (y_1) = (41 : Int32) then (bnI (g_X12_hasParen I J ri rj rq) fun (x_37 : Int32) (_ : Nat → Int32) (_ : Nat → Int64) (_ : Nat → Nat → Int32) (_ : Nat → Nat → Int64) (_ : Nat → Nat → Option Nat) => (if x_37 = (0 : Int32) then ((0 : Int32), I, J, ri, rj, rq) else ((1 : Int32), I, J, ri, rj, rq))) else ((0 : Int32), I, J, ri, rj, rq))))))) := rfl
set_option maxHeartbeats 4000000 in
set_option maxRecDepth 100000 in
theorem s_X12_goesOn (l : Launch) (D : va_G) (t : pq_T) (σ : pq_S) (I : Nat → Nat → Int32) (J : Nat → Nat → Int64) (ri : Nat → Nat → Int32) (rj : Nat → Nat → Int64) (rq : Nat → Nat → Option Nat) (sz : Nat) (tg : Nat → Nat) (hSH : SH σ tg) (hG0 : GT tg I ri) (this : Nat) (hL_this : this ∈ σ.1) (hK_this : σ.2.1 this = 12) (this_pile : Nat) (hR_this_pile : σ.2.2.1 400 this = some this_pile) (hL_this_pile : this_pile ∈ σ.1) (hK_this_pile : σ.2.1 this_pile = 13) (hN_this_pile : σ.2.2.2 this_pile = 160) (hT_this_pile : tg this_pile = 400) : MetI l yX12_goesOn (wa yX12_goesOn cX12_goesOn 1 (some .boolean)) ({ frames := 1, cells := 0, slots := 0, locals := 21 }) [.ref this] D t σ (I, J, ri, rj, rq) sz 0 0 (fun (r : Int32) (u : pq_S × pq_M) => u = (σ, I, J, ri, rj, rq) ∧ g_X12_goesOn (vI 12 σ this I) (vJ 12 σ this J) (vR 12 σ this ri) (vL 12 σ this rj) (vQ 12 σ this rq) = (r, (vI 12 σ this I), (vJ 12 σ this J), (vR 12 σ this ri), (vL 12 σ this rj), (vQ 12 σ this rq)) ∧ ((r = 1 ∧ (((I 393 this).toInt = 43 ∨ (I 393 this).toInt = 45 ∨ (I 393 this).toInt = 42 ∨ (I 393 this).toInt = 47 ∨ (I 393 this).toInt = 41) ∧ ((I 393 this).toInt = 41 → ∃ k : Nat, (k : Int) < (I 401 this).toInt ∧ (ri this_pile k).toInt = 40))) ∨ (r = 0 ∧ True))) := by
  refine Met.ofW (cc := cX12_goesOn) (maxL := 1) (ret := (some .boolean)) (by decide) rfl ?_
  intro p e s m args below meth c s₁ B hml hv
  obtain ⟨rfl, hsz, hP, hK, hD0, hN⟩ := hv
  have hx := B.exec
  have hb := B.bytes
  have hr := B.returns
  have hts := atoms_spec (ws := (wa yX12_goesOn cX12_goesOn 1 (some .boolean))) B.pre
  have hown : s.vm.findClass RX12 = some m.cls := findClass_of_methodNamed B.named
  have hlocks := B.notSynchronized
  subst hsz
  have hD : va_D (pq_B t σ (I, J, ri, rj, rq) s.heap.size) (pq_P t σ (I, J, ri, rj, rq)) := hD0.self
  generalize hAe : pq_B t σ (I, J, ri, rj, rq) s.heap.size = A at hD ⊢
  have hA : ∀ q : Nat, s.heap.size ≤ q → A q := fun q h => by rw [← hAe]; exact Or.inr h
  have hS : va_S A s.heap s.heap [] := va_S.rf
  have hG : GM [] tg σ I ri I ri rq := ⟨hG0, fun _ _ _ => rfl, fun _ _ _ _ _ => rfl, fun _ _ _ _ _ _ => rfl⟩
  have hl := lv_entry ([.ref this]) (n := 1) (Nat.le_of_ble_eq_true rfl)
  rw [lg_entry_eq]
  generalize (lg_sl ([.ref this]) ++ List.replicate (1 - (lg_sl ([.ref this])).length) Slot.unset).toArray = ls at hl ⊢
  have hl : lv_has ls 1 [(0, .ref this)] := hl
  refine q_gen (fun Q hQ => ?_)
  have go : ∀ (H : Heap) (locs : List Loc) (ls : Array Slot), va_P D vwCl (pq_P t σ (I, J, ri, rj, rq)) H → va_D A (pq_P t σ (I, J, ri, rj, rq)) → va_S A s.heap H locs → lv_has ls 1 [(0, .ref this)] → W p l e ({ frames := 1, cells := 0, slots := 0, locals := 21 } : Room) s m (List.toArray ([.ref this] : List Value)) below meth c H locs 0 0 Q (F0 m 0 ls []) := by
    intro H locs ls hP hD hS hl
    have hO_this : this = vo σ 12 this := rfl
    have hVT : VT 12 σ tg this := vt_12 hSH hL_this hK_this
    have hFr : FR 12 tg σ this (I, J, ri, rj, rq) (I, J, ri, rj, rq) := fr_rf
    have hO_this_pile : this_pile = vrow σ 400 this := vo_k (c := 12) hO_this hR_this_pile
    obtain ⟨F, hF0⟩ : ∃ F, F = g_X12_goesOn (vI 12 σ this I) (vJ 12 σ this J) (vR 12 σ this ri) (vL 12 σ this rj) (vQ 12 σ this rq) := ⟨_, rfl⟩
    have hF := hF0.trans g_X12_goesOn_e
    refine lv_aload_n hx hb dX12_goesOn_0 rfl (lv_at hl 0 rfl) ?_
    refine pg_f (v := .int (I 393 this)) (C := RX12) (T := TX12) (N := 31) hx hb hts (tw_i inlX12) hown hK hP hL_this hK_this (by decide) rfl 9 (by decide) (hts _ (tw_c tw_831)) rfl dX12_goesOn_1 ?_
    replace hF := hF.trans (ap_n (vI_e (f := 393) hO_this (by decide)))
    refine lv_bipush (v := 43) hx hb dX12_goesOn_4 (by decide) ?_
    refine lv_icmp_eq (tgt := 52) hx hb dX12_goesOn_6 (by decide) (fun c_2 => ?_) (fun c_2 => ?_)
    · replace hF := hF.trans (if_pos c_2)
      have tc_6 : (I 393 this).toInt = 43 := congrArg Int32.toInt c_2
      have h_7 : rg (I 393 this) 43 43 := rg_and (rg_full _) (rg_of_eq c_2 (rg_k (43 : Int32) 43 rfl)) (by decide)
      have uh_7 := h_7.1
      have vh_7 := h_7.2
      refine lv_iconst (v := 1) hx hb dX12_goesOn_52 (by decide) ?_
      refine lv_goto (tgt := 57) hx hb dX12_goesOn_53 (by decide) ?_
      subst hQ
      exact W.zret (v := 1) hx hb hr (by decide) (fun t1 ht hW => ⟨⟨1, (σ, I, J, ri, rj, rq), rfl, ⟨rfl, (hF0.symm.trans hF), (Or.inl ⟨rfl, ⟨by omega, fun q => absurd q (by omega)⟩⟩)⟩, by rw [ht]; exact hP, va_K.moved hW.alike hK, hD⟩, hS.F ht⟩) hS.2.2 dX12_goesOn_57
    · replace hF := hF.trans (if_neg c_2)
      have tc_8 : (I 393 this).toInt ≠ 43 := fun q => c_2 (Int32.toInt_inj.mp q)
      refine lv_aload_n hx hb dX12_goesOn_9 rfl (lv_at hl 0 rfl) ?_
      refine pg_f (v := .int (I 393 this)) (C := RX12) (T := TX12) (N := 31) hx hb hts (tw_i inlX12) hown hK hP hL_this hK_this (by decide) rfl 9 (by decide) (hts _ (tw_c tw_831)) rfl dX12_goesOn_10 ?_
      refine lv_bipush (v := 45) hx hb dX12_goesOn_13 (by decide) ?_
      refine lv_icmp_eq (tgt := 52) hx hb dX12_goesOn_15 (by decide) (fun c_9 => ?_) (fun c_9 => ?_)
      · replace hF := hF.trans (if_pos c_9)
        have tc_13 : (I 393 this).toInt = 45 := congrArg Int32.toInt c_9
        have h_14 : rg (I 393 this) 45 45 := rg_and (rg_full _) (rg_of_eq c_9 (rg_k (45 : Int32) 45 rfl)) (by decide)
        have uh_14 := h_14.1
        have vh_14 := h_14.2
        refine lv_iconst (v := 1) hx hb dX12_goesOn_52 (by decide) ?_
        refine lv_goto (tgt := 57) hx hb dX12_goesOn_53 (by decide) ?_
        subst hQ
        exact W.zret (v := 1) hx hb hr (by decide) (fun t1 ht hW => ⟨⟨1, (σ, I, J, ri, rj, rq), rfl, ⟨rfl, (hF0.symm.trans hF), (Or.inl ⟨rfl, ⟨by omega, fun q => absurd q (by omega)⟩⟩)⟩, by rw [ht]; exact hP, va_K.moved hW.alike hK, hD⟩, hS.F ht⟩) hS.2.2 dX12_goesOn_57
      · replace hF := hF.trans (if_neg c_9)
        have tc_15 : (I 393 this).toInt ≠ 45 := fun q => c_9 (Int32.toInt_inj.mp q)
        refine lv_aload_n hx hb dX12_goesOn_18 rfl (lv_at hl 0 rfl) ?_
        refine pg_f (v := .int (I 393 this)) (C := RX12) (T := TX12) (N := 31) hx hb hts (tw_i inlX12) hown hK hP hL_this hK_this (by decide) rfl 9 (by decide) (hts _ (tw_c tw_831)) rfl dX12_goesOn_19 ?_
        refine lv_bipush (v := 42) hx hb dX12_goesOn_22 (by decide) ?_
        refine lv_icmp_eq (tgt := 52) hx hb dX12_goesOn_24 (by decide) (fun c_16 => ?_) (fun c_16 => ?_)
        · replace hF := hF.trans (if_pos c_16)
          have tc_20 : (I 393 this).toInt = 42 := congrArg Int32.toInt c_16
          have h_21 : rg (I 393 this) 42 42 := rg_and (rg_full _) (rg_of_eq c_16 (rg_k (42 : Int32) 42 rfl)) (by decide)
          have uh_21 := h_21.1
          have vh_21 := h_21.2
          refine lv_iconst (v := 1) hx hb dX12_goesOn_52 (by decide) ?_
          refine lv_goto (tgt := 57) hx hb dX12_goesOn_53 (by decide) ?_
          subst hQ
          exact W.zret (v := 1) hx hb hr (by decide) (fun t1 ht hW => ⟨⟨1, (σ, I, J, ri, rj, rq), rfl, ⟨rfl, (hF0.symm.trans hF), (Or.inl ⟨rfl, ⟨by omega, fun q => absurd q (by omega)⟩⟩)⟩, by rw [ht]; exact hP, va_K.moved hW.alike hK, hD⟩, hS.F ht⟩) hS.2.2 dX12_goesOn_57
        · replace hF := hF.trans (if_neg c_16)
          have tc_22 : (I 393 this).toInt ≠ 42 := fun q => c_16 (Int32.toInt_inj.mp q)
          refine lv_aload_n hx hb dX12_goesOn_27 rfl (lv_at hl 0 rfl) ?_
          refine pg_f (v := .int (I 393 this)) (C := RX12) (T := TX12) (N := 31) hx hb hts (tw_i inlX12) hown hK hP hL_this hK_this (by decide) rfl 9 (by decide) (hts _ (tw_c tw_831)) rfl dX12_goesOn_28 ?_
          refine lv_bipush (v := 47) hx hb dX12_goesOn_31 (by decide) ?_
          refine lv_icmp_eq (tgt := 52) hx hb dX12_goesOn_33 (by decide) (fun c_23 => ?_) (fun c_23 => ?_)
          · replace hF := hF.trans (if_pos c_23)
            have tc_27 : (I 393 this).toInt = 47 := congrArg Int32.toInt c_23
            have h_28 : rg (I 393 this) 47 47 := rg_and (rg_full _) (rg_of_eq c_23 (rg_k (47 : Int32) 47 rfl)) (by decide)
            have uh_28 := h_28.1
            have vh_28 := h_28.2
            refine lv_iconst (v := 1) hx hb dX12_goesOn_52 (by decide) ?_
            refine lv_goto (tgt := 57) hx hb dX12_goesOn_53 (by decide) ?_
            subst hQ
            exact W.zret (v := 1) hx hb hr (by decide) (fun t1 ht hW => ⟨⟨1, (σ, I, J, ri, rj, rq), rfl, ⟨rfl, (hF0.symm.trans hF), (Or.inl ⟨rfl, ⟨by omega, fun q => absurd q (by omega)⟩⟩)⟩, by rw [ht]; exact hP, va_K.moved hW.alike hK, hD⟩, hS.F ht⟩) hS.2.2 dX12_goesOn_57
          · replace hF := hF.trans (if_neg c_23)
            have tc_29 : (I 393 this).toInt ≠ 47 := fun q => c_23 (Int32.toInt_inj.mp q)
            refine lv_aload_n hx hb dX12_goesOn_36 rfl (lv_at hl 0 rfl) ?_
            refine pg_f (v := .int (I 393 this)) (C := RX12) (T := TX12) (N := 31) hx hb hts (tw_i inlX12) hown hK hP hL_this hK_this (by decide) rfl 9 (by decide) (hts _ (tw_c tw_831)) rfl dX12_goesOn_37 ?_
            refine lv_bipush (v := 41) hx hb dX12_goesOn_40 (by decide) ?_
            refine lv_icmp_ne (tgt := 56) hx hb dX12_goesOn_42 (by decide) (fun c_30 => ?_) (fun c_30 => ?_)
            · replace hF := hF.trans (if_neg c_30)
              have tc_34 : (I 393 this).toInt ≠ 41 := fun q => c_30 (Int32.toInt_inj.mp q)
              refine lv_iconst (v := 0) hx hb dX12_goesOn_56 (by decide) ?_
              subst hQ
              exact W.zret (v := 0) hx hb hr (by decide) (fun t1 ht hW => ⟨⟨0, (σ, I, J, ri, rj, rq), rfl, ⟨rfl, (hF0.symm.trans hF), (Or.inr ⟨rfl, trivial⟩)⟩, by rw [ht]; exact hP, va_K.moved hW.alike hK, hD⟩, hS.F ht⟩) hS.2.2 dX12_goesOn_57
            · replace hF := hF.trans (if_pos c_30)
              have tc_35 : (I 393 this).toInt = 41 := congrArg Int32.toInt c_30
              have h_36 : rg (I 393 this) 41 41 := rg_and (rg_full _) (rg_of_eq c_30 (rg_k (41 : Int32) 41 rfl)) (by decide)
              have uh_36 := h_36.1
              have vh_36 := h_36.2
              refine lv_aload_n hx hb dX12_goesOn_45 rfl (lv_at hl 0 rfl) ?_
              refine pk_i (va_runV (As := []) (rest := []) ⟨hx, hb, hml, hown, hts⟩ (s_X12_hasParen l D t σ I J ri rj rq H.size tg hSH hG.1 this hL_this hK_this this_pile hR_this_pile hL_this_pile hK_this_pile hN_this_pile hT_this_pile) (cwV 0 hts (tw_V tw_893 tw_894 tw_895 tw_5 tw_896) rfl rfl rfl cv_yX12_hasParen_0 ⟨Nat.le_of_ble_eq_true rfl, Nat.le_of_ble_eq_true rfl⟩) ⟨pq_blind, pq_recv hK hP hL_this hK_this (by decide) rfl, pq_pre hK hN hP hD⟩ rfl rfl hl.1 rfl (lv_room (Nat.le_of_ble_eq_true rfl)) dX12_goesOn_46 ⟨Nat.le_of_ble_eq_true rfl, Nat.le_of_ble_eq_true rfl⟩) hD hS hA (fun x_37 σ1 μ1 H locs hw_38 hP hD hS => ?_)
              obtain ⟨hu_39, hfn_42, hr_41⟩ := hw_38
              obtain ⟨hu_39a, hu_39b⟩ := Prod.mk.inj hu_39
              rw [hu_39a, hu_39b] at hP hD
              replace hF := hF.trans (bn_n hfn_42)
              have h_44 : rg x_37 0 1 := by rcases hr_41 with ⟨q, -⟩ | ⟨q, -⟩ <;> rw [q] <;> exact ⟨by decide, by decide⟩
              have uh_44 := h_44.1
              have vh_44 := h_44.2
              refine lv_if_eq (tgt := 56) hx hb dX12_goesOn_49 (by decide) (fun c_45 => ?_) (fun c_45 => ?_)
              · replace hF := hF.trans (if_pos c_45)
                have f_52 := (hr_41.resolve_left (fun q => absurd (q.1.symm.trans c_45) (by decide))).2
                have tc_53 : (x_37).toInt = 0 := congrArg Int32.toInt c_45
                have h_54 : rg x_37 0 0 := rg_and h_44 (rg_of_eq c_45 (rg_k (0 : Int32) 0 rfl)) (by decide)
                have uh_54 := h_54.1
                have vh_54 := h_54.2
                refine lv_iconst (v := 0) hx hb dX12_goesOn_56 (by decide) ?_
                subst hQ
                exact W.zret (v := 0) hx hb hr (by decide) (fun t1 ht hW => ⟨⟨0, (σ, I, J, ri, rj, rq), rfl, ⟨rfl, (hF0.symm.trans hF), (Or.inr ⟨rfl, trivial⟩)⟩, by rw [ht]; exact hP, va_K.moved hW.alike hK, hD⟩, hS.F ht⟩) hS.2.2 dX12_goesOn_57
              · replace hF := hF.trans (if_neg c_45)
                have f_55 := (hr_41.resolve_right (fun q => c_45 q.1)).2
                have tc_56 : (x_37).toInt ≠ 0 := fun q => c_45 (Int32.toInt_inj.mp q)
                have h_57 : rg x_37 1 1 := rg_ne c_45 h_44 0 rfl (by decide)
                have uh_57 := h_57.1
                have vh_57 := h_57.2
                refine lv_iconst (v := 1) hx hb dX12_goesOn_52 (by decide) ?_
                refine lv_goto (tgt := 57) hx hb dX12_goesOn_53 (by decide) ?_
                subst hQ
                exact W.zret (v := 1) hx hb hr (by decide) (fun t1 ht hW => ⟨⟨1, (σ, I, J, ri, rj, rq), rfl, ⟨rfl, (hF0.symm.trans hF), (Or.inl ⟨rfl, ⟨by omega, fun q => f_55⟩⟩)⟩, by rw [ht]; exact hP, va_K.moved hW.alike hK, hD⟩, hS.F ht⟩) hS.2.2 dX12_goesOn_57
  exact go _ _ _ hP hD hS hl

set_option maxRecDepth 100000 in
def g_X12_beginOne (I : Nat → Int32) (J : Nat → Int64) (ri : Nat → Nat → Int32) (rj : Nat → Nat → Int64) (rq : Nat → Nat → Option Nat) : Int32 × vM := (ap1 (I 393) fun (y_1 : Int32) => (if (y_1) = (1 : Int32) then (ap1 (I 394) fun (y_469 : Int32) => (if (y_469) ≤ (9999 : Int32) then (bnV (g_X12_emit (0 : Int32) (y_469) I J ri rj rq) fun (I_493 : Nat → Int32) (_ : Nat → Int64) (ri_494 : Nat → Nat → Int32) (_ : Nat → Nat → Int64) (_ : Nat → Nat → Option Nat) => (bnV (g_X12_nextToken_x I_493 J ri_494 rj rq) fun (I_516 : Nat → Int32) (J_517 : Nat → Int64) (_ : Nat → Nat → Int32) (_ : Nat → Nat → Int64) (_ : Nat → Nat → Option Nat) => (bnV (g_X12_whole I_516 J_517 ri_494 rj rq) fun (I_537 : Nat → Int32) (_ : Nat → Int64) (ri_538 : Nat → Nat → Int32) (_ : Nat → Nat → Int64) (_ : Nat → Nat → Option Nat) => ((0 : Int32), I_537, J_517, ri_538, rj, rq)))) else ((2 : Int32), I, J, ri, rj, rq))) else (if (y_1) = (1 : Int32) then (ap1 (I 394) fun (y_23 : Int32) => (bnV (g_X12_emit (0 : Int32) (y_23) I J ri rj rq) fun (I_26 : Nat → Int32) (_ : Nat → Int64) (ri_27 : Nat → Nat → Int32) (_ : Nat → Nat → Int64) (_ : Nat → Nat → Option Nat) => (bnV (g_X12_nextToken_x I_26 J ri_27 rj rq) fun (I_49 : Nat → Int32) (J_50 : Nat → Int64) (_ : Nat → Nat → Int32) (_ : Nat → Nat → Int64) (_ : Nat → Nat → Option Nat) => (bnV (g_X12_whole I_49 J_50 ri_27 rj rq) fun (I_70 : Nat → Int32) (_ : Nat → Int64) (ri_71 : Nat → Nat → Int32) (_ : Nat → Nat → Int64) (_ : Nat → Nat → Option Nat) => ((0 : Int32), I_70, J_50, ri_71, rj, rq))))) else (bnI (g_X12_nameOf_x I J ri rj rq) fun (x_85 : Int32) (_ : Nat → Int32) (_ : Nat → Int64) (_ : Nat → Nat → Int32) (_ : Nat → Nat → Int64) (_ : Nat → Nat → Option Nat) => (if x_85 < (0 : Int32) then (if (y_1) = (40 : Int32) then (ap1 (I 402) fun (y_107 : Int32) => (if (y_107) = (8 : Int32) then ((3 : Int32), I, J, ri, rj, rq) else (ap1 ((y_107) + (1 : Int32)) fun (x_114 : Int32) => (ap1 (va_up I 402 x_114) fun (I_116 : Nat → Int32) => (ap1 (I_116 393) fun (y_126 : Int32) => (bnV (g_X12_push (40 : Int32) I_116 J ri rj rq) fun (I_134 : Nat → Int32) (_ : Nat → Int64) (ri_135 : Nat → Nat → Int32) (_ : Nat → Nat → Int64) (_ : Nat → Nat → Option Nat) => (bnV (g_X12_nextToken_x I_134 J ri_135 rj rq) fun (I_156 : Nat → Int32) (J_157 : Nat → Int64) (_ : Nat → Nat → Int32) (_ : Nat → Nat → Int64) (_ : Nat → Nat → Option Nat) => ((0 : Int32), I_156, J_157, ri_135, rj, rq)))))))) else (if (y_1) = (45 : Int32) then (ap1 (I 402) fun (y_184 : Int32) => (if (y_184) = (8 : Int32) then ((3 : Int32), I, J, ri, rj, rq) else (ap1 ((y_184) + (1 : Int32)) fun (x_191 : Int32) => (ap1 (va_up I 402 x_191) fun (I_193 : Nat → Int32) => (ap1 (I_193 393) fun (y_203 : Int32) => (bnV (g_X12_push (2 : Int32) I_193 J ri rj rq) fun (I_210 : Nat → Int32) (_ : Nat → Int64) (ri_211 : Nat → Nat → Int32) (_ : Nat → Nat → Int64) (_ : Nat → Nat → Option Nat) => (bnV (g_X12_nextToken_x I_210 J ri_211 rj rq) fun (I_232 : Nat → Int32) (J_233 : Nat → Int64) (_ : Nat → Nat → Int32) (_ : Nat → Nat → Int64) (_ : Nat → Nat → Option Nat) => ((0 : Int32), I_232, J_233, ri_211, rj, rq)))))))) else ((1 : Int32), I, J, ri, rj, rq))) else (if (y_1) = (1 : Int32) then (ap1 (I 394) fun (y_406 : Int32) => (bnV (g_X12_emit (0 : Int32) (y_406) I J ri rj rq) fun (I_409 : Nat → Int32) (_ : Nat → Int64) (ri_410 : Nat → Nat → Int32) (_ : Nat → Nat → Int64) (_ : Nat → Nat → Option Nat) => (bnV (g_X12_nextToken_x I_409 J ri_410 rj rq) fun (I_432 : Nat → Int32) (J_433 : Nat → Int64) (_ : Nat → Nat → Int32) (_ : Nat → Nat → Int64) (_ : Nat → Nat → Option Nat) => (bnV (g_X12_whole I_432 J_433 ri_410 rj rq) fun (I_453 : Nat → Int32) (_ : Nat → Int64) (ri_454 : Nat → Nat → Int32) (_ : Nat → Nat → Int64) (_ : Nat → Nat → Option Nat) => ((0 : Int32), I_453, J_433, ri_454, rj, rq))))) else (if (y_1) = (1 : Int32) then (ap1 (I 394) fun (y_338 : Int32) => (bnV (g_X12_emit (1 : Int32) (y_338) I J ri rj rq) fun (I_341 : Nat → Int32) (_ : Nat → Int64) (ri_342 : Nat → Nat → Int32) (_ : Nat → Nat → Int64) (_ : Nat → Nat → Option Nat) => (bnV (g_X12_nextToken_x I_341 J ri_342 rj rq) fun (I_364 : Nat → Int32) (J_365 : Nat → Int64) (_ : Nat → Nat → Int32) (_ : Nat → Nat → Int64) (_ : Nat → Nat → Option Nat) => (bnV (g_X12_whole I_364 J_365 ri_342 rj rq) fun (I_385 : Nat → Int32) (_ : Nat → Int64) (ri_386 : Nat → Nat → Int32) (_ : Nat → Nat → Int64) (_ : Nat → Nat → Option Nat) => ((0 : Int32), I_385, J_365, ri_386, rj, rq))))) else (bnI (g_X12_nameOf_x I J ri rj rq) fun (x_267 : Int32) (_ : Nat → Int32) (_ : Nat → Int64) (_ : Nat → Nat → Int32) (_ : Nat → Nat → Int64) (_ : Nat → Nat → Option Nat) => (bnV (g_X12_emit (1 : Int32) x_267 I J ri rj rq) fun (I_278 : Nat → Int32) (_ : Nat → Int64) (ri_279 : Nat → Nat → Int32) (_ : Nat → Nat → Int64) (_ : Nat → Nat → Option Nat) => (bnV (g_X12_nextToken_x I_278 J ri_279 rj rq) fun (I_301 : Nat → Int32) (J_302 : Nat → Int64) (_ : Nat → Nat → Int32) (_ : Nat → Nat → Int64) (_ : Nat → Nat → Option Nat) => (bnV (g_X12_whole I_301 J_302 ri_279 rj rq) fun (I_322 : Nat → Int32) (_ : Nat → Int64) (ri_323 : Nat → Nat → Int32) (_ : Nat → Nat → Int64) (_ : Nat → Nat → Option Nat) => ((0 : Int32), I_322, J_302, ri_323, rj, rq))))))))))))
set_option maxRecDepth 100000 in
theorem g_X12_beginOne_e {I : Nat → Int32} {J : Nat → Int64} {ri : Nat → Nat → Int32} {rj : Nat → Nat → Int64} {rq : Nat → Nat → Option Nat} : g_X12_beginOne I J ri rj rq = (ap1 (I 393) fun (y_1 : Int32) => (if (y_1) = (1 : Int32) then (ap1 (I 394) fun (y_469 : Int32) => (if (y_469) ≤ (9999 : Int32) then (bnV (g_X12_emit (0 : Int32) (y_469) I J ri rj rq) fun (I_493 : Nat → Int32) (_ : Nat → Int64) (ri_494 : Nat → Nat → Int32) (_ : Nat → Nat → Int64) (_ : Nat → Nat → Option Nat) => (bnV (g_X12_nextToken_x I_493 J ri_494 rj rq) fun (I_516 : Nat → Int32) (J_517 : Nat → Int64) (_ : Nat → Nat → Int32) (_ : Nat → Nat → Int64) (_ : Nat → Nat → Option Nat) => (bnV (g_X12_whole I_516 J_517 ri_494 rj rq) fun (I_537 : Nat → Int32) (_ : Nat → Int64) (ri_538 : Nat → Nat → Int32) (_ : Nat → Nat → Int64) (_ : Nat → Nat → Option Nat) => ((0 : Int32), I_537, J_517, ri_538, rj, rq)))) else ((2 : Int32), I, J, ri, rj, rq))) else (if (y_1) = (1 : Int32) then (ap1 (I 394) fun (y_23 : Int32) => (bnV (g_X12_emit (0 : Int32) (y_23) I J ri rj rq) fun (I_26 : Nat → Int32) (_ : Nat → Int64) (ri_27 : Nat → Nat → Int32) (_ : Nat → Nat → Int64) (_ : Nat → Nat → Option Nat) => (bnV (g_X12_nextToken_x I_26 J ri_27 rj rq) fun (I_49 : Nat → Int32) (J_50 : Nat → Int64) (_ : Nat → Nat → Int32) (_ : Nat → Nat → Int64) (_ : Nat → Nat → Option Nat) => (bnV (g_X12_whole I_49 J_50 ri_27 rj rq) fun (I_70 : Nat → Int32) (_ : Nat → Int64) (ri_71 : Nat → Nat → Int32) (_ : Nat → Nat → Int64) (_ : Nat → Nat → Option Nat) => ((0 : Int32), I_70, J_50, ri_71, rj, rq))))) else (bnI (g_X12_nameOf_x I J ri rj rq) fun (x_85 : Int32) (_ : Nat → Int32) (_ : Nat → Int64) (_ : Nat → Nat → Int32) (_ : Nat → Nat → Int64) (_ : Nat → Nat → Option Nat) => (if x_85 < (0 : Int32) then (if (y_1) = (40 : Int32) then (ap1 (I 402) fun (y_107 : Int32) => (if (y_107) = (8 : Int32) then ((3 : Int32), I, J, ri, rj, rq) else (ap1 ((y_107) + (1 : Int32)) fun (x_114 : Int32) => (ap1 (va_up I 402 x_114) fun (I_116 : Nat → Int32) => (ap1 (I_116 393) fun (y_126 : Int32) => (bnV (g_X12_push (40 : Int32) I_116 J ri rj rq) fun (I_134 : Nat → Int32) (_ : Nat → Int64) (ri_135 : Nat → Nat → Int32) (_ : Nat → Nat → Int64) (_ : Nat → Nat → Option Nat) => (bnV (g_X12_nextToken_x I_134 J ri_135 rj rq) fun (I_156 : Nat → Int32) (J_157 : Nat → Int64) (_ : Nat → Nat → Int32) (_ : Nat → Nat → Int64) (_ : Nat → Nat → Option Nat) => ((0 : Int32), I_156, J_157, ri_135, rj, rq)))))))) else (if (y_1) = (45 : Int32) then (ap1 (I 402) fun (y_184 : Int32) => (if (y_184) = (8 : Int32) then ((3 : Int32), I, J, ri, rj, rq) else (ap1 ((y_184) + (1 : Int32)) fun (x_191 : Int32) => (ap1 (va_up I 402 x_191) fun (I_193 : Nat → Int32) => (ap1 (I_193 393) fun (y_203 : Int32) => (bnV (g_X12_push (2 : Int32) I_193 J ri rj rq) fun (I_210 : Nat → Int32) (_ : Nat → Int64) (ri_211 : Nat → Nat → Int32) (_ : Nat → Nat → Int64) (_ : Nat → Nat → Option Nat) => (bnV (g_X12_nextToken_x I_210 J ri_211 rj rq) fun (I_232 : Nat → Int32) (J_233 : Nat → Int64) (_ : Nat → Nat → Int32) (_ : Nat → Nat → Int64) (_ : Nat → Nat → Option Nat) => ((0 : Int32), I_232, J_233, ri_211, rj, rq)))))))) else ((1 : Int32), I, J, ri, rj, rq))) else (if (y_1) = (1 : Int32) then (ap1 (I 394) fun (y_406 : Int32) => (bnV (g_X12_emit (0 : Int32) (y_406) I J ri rj rq) fun (I_409 : Nat → Int32) (_ : Nat → Int64) (ri_410 : Nat → Nat → Int32) (_ : Nat → Nat → Int64) (_ : Nat → Nat → Option Nat) => (bnV (g_X12_nextToken_x I_409 J ri_410 rj rq) fun (I_432 : Nat → Int32) (J_433 : Nat → Int64) (_ : Nat → Nat → Int32) (_ : Nat → Nat → Int64) (_ : Nat → Nat → Option Nat) => (bnV (g_X12_whole I_432 J_433 ri_410 rj rq) fun (I_453 : Nat → Int32) (_ : Nat → Int64) (ri_454 : Nat → Nat → Int32) (_ : Nat → Nat → Int64) (_ : Nat → Nat → Option Nat) => ((0 : Int32), I_453, J_433, ri_454, rj, rq))))) else (if (y_1) = (1 : Int32) then (ap1 (I 394) fun (y_338 : Int32) => (bnV (g_X12_emit (1 : Int32) (y_338) I J ri rj rq) fun (I_341 : Nat → Int32) (_ : Nat → Int64) (ri_342 : Nat → Nat → Int32) (_ : Nat → Nat → Int64) (_ : Nat → Nat → Option Nat) => (bnV (g_X12_nextToken_x I_341 J ri_342 rj rq) fun (I_364 : Nat → Int32) (J_365 : Nat → Int64) (_ : Nat → Nat → Int32) (_ : Nat → Nat → Int64) (_ : Nat → Nat → Option Nat) => (bnV (g_X12_whole I_364 J_365 ri_342 rj rq) fun (I_385 : Nat → Int32) (_ : Nat → Int64) (ri_386 : Nat → Nat → Int32) (_ : Nat → Nat → Int64) (_ : Nat → Nat → Option Nat) => ((0 : Int32), I_385, J_365, ri_386, rj, rq))))) else (bnI (g_X12_nameOf_x I J ri rj rq) fun (x_267 : Int32) (_ : Nat → Int32) (_ : Nat → Int64) (_ : Nat → Nat → Int32) (_ : Nat → Nat → Int64) (_ : Nat → Nat → Option Nat) => (bnV (g_X12_emit (1 : Int32) x_267 I J ri rj rq) fun (I_278 : Nat → Int32) (_ : Nat → Int64) (ri_279 : Nat → Nat → Int32) (_ : Nat → Nat → Int64) (_ : Nat → Nat → Option Nat) => (bnV (g_X12_nextToken_x I_278 J ri_279 rj rq) fun (I_301 : Nat → Int32) (J_302 : Nat → Int64) (_ : Nat → Nat → Int32) (_ : Nat → Nat → Int64) (_ : Nat → Nat → Option Nat) => (bnV (g_X12_whole I_301 J_302 ri_279 rj rq) fun (I_322 : Nat → Int32) (_ : Nat → Int64) (ri_323 : Nat → Nat → Int32) (_ : Nat → Nat → Int64) (_ : Nat → Nat → Option Nat) => ((0 : Int32), I_322, J_302, ri_323, rj, rq)))))))))))) := rfl
set_option maxHeartbeats 4000000 in
set_option maxRecDepth 100000 in
theorem s_X12_beginOne (l : Launch) (D : va_G) (t : pq_T) (σ : pq_S) (I : Nat → Nat → Int32) (J : Nat → Nat → Int64) (ri : Nat → Nat → Int32) (rj : Nat → Nat → Int64) (rq : Nat → Nat → Option Nat) (sz : Nat) (tg : Nat → Nat) (hSH : SH σ tg) (hG0 : GT tg I ri) (this : Nat) (hL_this : this ∈ σ.1) (hK_this : σ.2.1 this = 12) (this_a : Nat) (hR_this_a : σ.2.2.1 384 this = some this_a) (hL_this_a : this_a ∈ σ.1) (hK_this_a : σ.2.1 this_a = 13) (hN_this_a : σ.2.2.2 this_a = 12720) (hT_this_a : tg this_a = 384) (this_pile : Nat) (hR_this_pile : σ.2.2.1 400 this = some this_pile) (hL_this_pile : this_pile ∈ σ.1) (hK_this_pile : σ.2.1 this_pile = 13) (hN_this_pile : σ.2.2.2 this_pile = 160) (hT_this_pile : tg this_pile = 400) (bb : Nat) (f0 : Nat → Int32) (fr : Int) (ba : Int) (tb : Int) (nn : Int) (K : Int) (hps : PSz (I 396 this).toInt (I 398 this).toInt (I 401 this).toInt (I 402 this).toInt (I 391 this).toInt (I 393 this).toInt (ri this_a) (ri this_pile) bb f0 fr ba tb nn K 0) (hi0 : (I 403 this).toInt = 0) : MetI l yX12_beginOne (wa yX12_beginOne cX12_beginOne 1 (some .int)) ({ frames := 4, cells := 0, slots := 0, locals := 89 }) [.ref this] D t σ (I, J, ri, rj, rq) sz 0 0 (fun (r : Int32) (u : pq_S × pq_M) => ∃ I' : Nat → Nat → Int32, ∃ J' : Nat → Nat → Int64, ∃ ri' : Nat → Nat → Int32, u = (σ, I', J', ri', rj, rq) ∧ GM [1930, 1931, 398, 391, 392, 393, 401, 402] tg σ I ri I' ri' rq ∧ (r.toInt ≠ 0 ∨ (PSz (I' 396 this).toInt (I' 398 this).toInt (I' 401 this).toInt (I' 402 this).toInt (I' 391 this).toInt (I' 393 this).toInt (ri' this_a) (ri' this_pile) bb f0 fr ba tb nn K (I' 403 this).toInt ∧ tmM (I' 391 this).toInt (I' 393 this).toInt < tmM (I 391 this).toInt (I 393 this).toInt)) ∧ g_X12_beginOne (vI 12 σ this I) (vJ 12 σ this J) (vR 12 σ this ri) (vL 12 σ this rj) (vQ 12 σ this rq) = (r, (vI 12 σ this I'), (vJ 12 σ this J'), (vR 12 σ this ri'), (vL 12 σ this rj), (vQ 12 σ this rq)) ∧ FR 12 tg σ this (I, J, ri, rj, rq) (I', J', ri', rj, rq) ∧ rg r 0 3) := by
  refine Met.ofW (cc := cX12_beginOne) (maxL := 1) (ret := (some .int)) (by decide) rfl ?_
  intro p e s m args below meth c s₁ B hml hv
  obtain ⟨rfl, hsz, hP, hK, hD0, hN⟩ := hv
  have hx := B.exec
  have hb := B.bytes
  have hr := B.returns
  have hts := atoms_spec (ws := (wa yX12_beginOne cX12_beginOne 1 (some .int))) B.pre
  have hown : s.vm.findClass RX12 = some m.cls := findClass_of_methodNamed B.named
  have hlocks := B.notSynchronized
  subst hsz
  have hD : va_D (pq_B t σ (I, J, ri, rj, rq) s.heap.size) (pq_P t σ (I, J, ri, rj, rq)) := hD0.self
  generalize hAe : pq_B t σ (I, J, ri, rj, rq) s.heap.size = A at hD ⊢
  have hA : ∀ q : Nat, s.heap.size ≤ q → A q := fun q h => by rw [← hAe]; exact Or.inr h
  have hS : va_S A s.heap s.heap [] := va_S.rf
  have hG : GM [1930, 1931, 398, 391, 392, 393, 401, 402] tg σ I ri I ri rq := ⟨hG0, fun _ _ _ => rfl, fun _ _ _ _ _ => rfl, fun _ _ _ _ _ _ => rfl⟩
  have hl := lv_entry ([.ref this]) (n := 1) (Nat.le_of_ble_eq_true rfl)
  rw [lg_entry_eq]
  generalize (lg_sl ([.ref this]) ++ List.replicate (1 - (lg_sl ([.ref this])).length) Slot.unset).toArray = ls at hl ⊢
  have hl : lv_has ls 1 [(0, .ref this)] := hl
  refine q_gen (fun Q hQ => ?_)
  have go : ∀ (H : Heap) (locs : List Loc) (ls : Array Slot), va_P D vwCl (pq_P t σ (I, J, ri, rj, rq)) H → va_D A (pq_P t σ (I, J, ri, rj, rq)) → va_S A s.heap H locs → lv_has ls 1 [(0, .ref this)] → W p l e ({ frames := 4, cells := 0, slots := 0, locals := 89 } : Room) s m (List.toArray ([.ref this] : List Value)) below meth c H locs 0 0 Q (F0 m 0 ls []) := by
    intro H locs ls hP hD hS hl
    have hO_this : this = vo σ 12 this := rfl
    have hVT : VT 12 σ tg this := vt_12 hSH hL_this hK_this
    have hFr : FR 12 tg σ this (I, J, ri, rj, rq) (I, J, ri, rj, rq) := fr_rf
    have hO_this_a : this_a = vrow σ 384 this := vo_k (c := 12) hO_this hR_this_a
    have hO_this_pile : this_pile = vrow σ 400 this := vo_k (c := 12) hO_this hR_this_pile
    obtain ⟨F, hF0⟩ : ∃ F, F = g_X12_beginOne (vI 12 σ this I) (vJ 12 σ this J) (vR 12 σ this ri) (vL 12 σ this rj) (vQ 12 σ this rq) := ⟨_, rfl⟩
    have hF := hF0.trans g_X12_beginOne_e
    refine lv_aload_n hx hb dX12_beginOne_0 rfl (lv_at hl 0 rfl) ?_
    refine pg_f (v := .int (I 393 this)) (C := RX12) (T := TX12) (N := 31) hx hb hts (tw_i inlX12) hown hK hP hL_this hK_this (by decide) rfl 9 (by decide) (hts _ (tw_c tw_831)) rfl dX12_beginOne_1 ?_
    replace hF := hF.trans (ap_n (vI_e (f := 393) hO_this (by decide)))
    refine lv_iconst (v := 1) hx hb dX12_beginOne_4 (by decide) ?_
    refine lv_icmp_ne (tgt := 20) hx hb dX12_beginOne_5 (by decide) (fun c_2 => ?_) (fun c_2 => ?_)
    · replace hF := hF.trans (if_neg c_2)
      have tc_6 : (I 393 this).toInt ≠ 1 := fun q => c_2 (Int32.toInt_inj.mp q)
      refine lv_aload_n hx hb dX12_beginOne_20 rfl (lv_at hl 0 rfl) ?_
      refine pg_f (v := .int (I 393 this)) (C := RX12) (T := TX12) (N := 31) hx hb hts (tw_i inlX12) hown hK hP hL_this hK_this (by decide) rfl 9 (by decide) (hts _ (tw_c tw_831)) rfl dX12_beginOne_21 ?_
      refine lv_iconst (v := 1) hx hb dX12_beginOne_24 (by decide) ?_
      refine lv_icmp_eq (tgt := 35) hx hb dX12_beginOne_25 (by decide) (fun c_7 => ?_) (fun c_7 => ?_)
      · replace hF := hF.trans (if_pos c_7)
        have tc_11 : (I 393 this).toInt = 1 := congrArg Int32.toInt c_7
        have h_12 : rg (I 393 this) 1 1 := rg_and (rg_full _) (rg_of_eq c_7 (rg_k (1 : Int32) 1 rfl)) (by decide)
        have uh_12 := h_12.1
        have vh_12 := h_12.2
        refine lv_aload_n hx hb dX12_beginOne_35 rfl (lv_at hl 0 rfl) ?_
        refine lv_aload_n hx hb dX12_beginOne_36 rfl (lv_at hl 0 rfl) ?_
        refine pg_f (v := .int (I 393 this)) (C := RX12) (T := TX12) (N := 31) hx hb hts (tw_i inlX12) hown hK hP hL_this hK_this (by decide) rfl 9 (by decide) (hts _ (tw_c tw_831)) rfl dX12_beginOne_37 ?_
        refine lv_iconst (v := 1) hx hb dX12_beginOne_40 (by decide) ?_
        refine lv_icmp_ne (tgt := 48) hx hb dX12_beginOne_41 (by decide) (fun c_13 => ?_) (fun c_13 => ?_)
        · have tc_16 : (I 393 this).toInt ≠ 1 := fun q => c_13 (Int32.toInt_inj.mp q)
          exact (rg_empty (rg_ne c_13 h_12 1 rfl (lo := 2) (hi := 0) (by decide)) (by decide)).elim
        · have tc_17 : (I 393 this).toInt = 1 := congrArg Int32.toInt c_13
          refine lv_iconst (v := 0) hx hb dX12_beginOne_44 (by decide) ?_
          refine lv_goto (tgt := 49) hx hb dX12_beginOne_45 (by decide) ?_
          refine lv_aload_n hx hb dX12_beginOne_49 rfl (lv_at hl 0 rfl) ?_
          refine pg_f (v := .int (I 393 this)) (C := RX12) (T := TX12) (N := 31) hx hb hts (tw_i inlX12) hown hK hP hL_this hK_this (by decide) rfl 9 (by decide) (hts _ (tw_c tw_831)) rfl dX12_beginOne_50 ?_
          refine lv_iconst (v := 1) hx hb dX12_beginOne_53 (by decide) ?_
          refine lv_icmp_ne (tgt := 64) hx hb dX12_beginOne_54 (by decide) (fun c_18 => ?_) (fun c_18 => ?_)
          · have tc_21 : (I 393 this).toInt ≠ 1 := fun q => c_18 (Int32.toInt_inj.mp q)
            exact (rg_empty (rg_ne c_18 h_12 1 rfl (lo := 2) (hi := 0) (by decide)) (by decide)).elim
          · have tc_22 : (I 393 this).toInt = 1 := congrArg Int32.toInt c_18
            refine lv_aload_n hx hb dX12_beginOne_57 rfl (lv_at hl 0 rfl) ?_
            refine pg_f (v := .int (I 394 this)) (C := RX12) (T := TX12) (N := 31) hx hb hts (tw_i inlX12) hown hK hP hL_this hK_this (by decide) rfl 10 (by decide) (hts _ (tw_c tw_836)) rfl dX12_beginOne_58 ?_
            replace hF := hF.trans (ap_n (vI_e (f := 394) hO_this (by decide)))
            refine lv_goto (tgt := 68) hx hb dX12_beginOne_61 (by decide) ?_
            have hq1 := PSz_t hps
            have hq2 := PSz_w hps (Or.inl (by omega))
            refine pk_v (va_runV (As := [.int 0, .int (I 394 this)]) (rest := []) ⟨hx, hb, hml, hown, hts⟩ (s_X12_emit l D t σ I J ri rj rq H.size tg hSH hG.1 this (0 : Int32) (I 394 this) hL_this hK_this this_a hR_this_a hL_this_a hK_this_a hN_this_a hT_this_a (by omega) (by omega)) (cwV 2 hts (tw_V tw_905 tw_906 tw_907 tw_5 tw_908) rfl rfl rfl cv_yX12_emit_2 ⟨Nat.le_of_ble_eq_true rfl, Nat.le_of_ble_eq_true rfl⟩) ⟨pq_blind, pq_recv hK hP hL_this hK_this (by decide) rfl, pq_pre hK hN hP hD⟩ rfl rfl hl.1 rfl (lv_room (Nat.le_of_ble_eq_true rfl)) dX12_beginOne_68 ⟨Nat.le_of_ble_eq_true rfl, Nat.le_of_ble_eq_true rfl⟩) hD hS hA (fun σ1 μ1 H locs hw_25 hP hD hS => ?_)
            obtain ⟨I_26, ri_27, hu_28, hg_29, hp_31, hp_32, hp_33, hp_34, hfn_35, hfr_36⟩ := hw_25
            obtain ⟨hu_28a, hu_28b⟩ := Prod.mk.inj hu_28
            rw [hu_28a, hu_28b] at hP hD
            replace hF := hF.trans (bv_n hfn_35)
            replace hFr := fr_tr hFr hfr_36
            obtain ⟨v_37, ev_37, hv_37⟩ := hp_31
            have tt_38 : (I_26 398 this).toInt = (I 398 this).toInt + 1 := by rw [ev_37, pq_us]; exact hv_37
            have tt_39 : (I_26 403 this).toInt = (I 403 this).toInt := by rw [ev_37, pq_uf _ _ _ (by decide)]
            have hG := GM.tr hG hg_29 (by decide)
            have tt_40 : (I_26 396 this).toInt = (I 396 this).toInt := by rw [hg_29.2.1 396 (by decide) (by decide)]
            have tt_41 : (I_26 401 this).toInt = (I 401 this).toInt := by rw [hg_29.2.1 401 (by decide) (by decide)]
            have tt_42 : (I_26 402 this).toInt = (I 402 this).toInt := by rw [hg_29.2.1 402 (by decide) (by decide)]
            have tt_43 : (I_26 391 this).toInt = (I 391 this).toInt := by rw [hg_29.2.1 391 (by decide) (by decide)]
            have tt_44 : (I_26 393 this).toInt = (I 393 this).toInt := by rw [hg_29.2.1 393 (by decide) (by decide)]
            have tt_45 : (I_26 397 this).toInt = (I 397 this).toInt := by rw [hg_29.2.1 397 (by decide) (by decide)]
            refine lv_aload_n hx hb dX12_beginOne_71 rfl (lv_at hl 0 rfl) ?_
            obtain ⟨w_46, hR_w_46, hL_w_46, hK_w_46, hN_w_46, hT_w_46⟩ := sh_a hSH 387 (ci := 12) (kd := 13) (len := 300) rfl (by decide) hL_this hK_this
            have hO_w_46 : w_46 = vrow σ 387 this := vo_k (c := 12) hO_this hR_w_46
            refine pk_v (va_runV (As := []) (rest := []) ⟨hx, hb, hml, hown, hts⟩ (s_X12_nextToken_x l D t σ I_26 J ri_27 rj rq H.size tg hSH hG.1 this hL_this hK_this w_46 hR_w_46 hL_w_46 hK_w_46 hN_w_46 hT_w_46) (cwV 0 hts (tw_V tw_832 tw_833 tw_834 tw_5 tw_835) rfl rfl rfl cv_yX12_nextToken_0 ⟨Nat.le_of_ble_eq_true rfl, Nat.le_of_ble_eq_true rfl⟩) ⟨pq_blind, pq_recv hK hP hL_this hK_this (by decide) rfl, pq_pre hK hN hP hD⟩ rfl rfl hl.1 rfl (lv_room (Nat.le_of_ble_eq_true rfl)) dX12_beginOne_72 ⟨Nat.le_of_ble_eq_true rfl, Nat.le_of_ble_eq_true rfl⟩) hD hS hA (fun σ1 μ1 H locs hw_48 hP hD hS => ?_)
            obtain ⟨I_49, J_50, hu_51, hg_52, hp_54, hp_55, hp_56, hfn_57, hfr_58⟩ := hw_48
            obtain ⟨hu_51a, hu_51b⟩ := Prod.mk.inj hu_51
            rw [hu_51a, hu_51b] at hP hD
            replace hF := hF.trans (bv_n hfn_57)
            replace hFr := fr_tr hFr hfr_58
            have tt_59 := hp_54
            have tt_60 := hp_55
            have tt_61 := hp_56
            have tt_62 : (I_49 391 this).toInt ≤ 300 := by have z := hg_52.1.1 391 this; exact z.2
            have hG := GM.tr hG hg_52 (by decide)
            have tt_63 : (I_49 396 this).toInt = (I_26 396 this).toInt := by rw [hg_52.2.1 396 (by decide) (by decide)]
            have tt_64 : (I_49 398 this).toInt = (I_26 398 this).toInt := by rw [hg_52.2.1 398 (by decide) (by decide)]
            have tt_65 : (I_49 401 this).toInt = (I_26 401 this).toInt := by rw [hg_52.2.1 401 (by decide) (by decide)]
            have tt_66 : (I_49 402 this).toInt = (I_26 402 this).toInt := by rw [hg_52.2.1 402 (by decide) (by decide)]
            have tt_67 : (I_49 397 this).toInt = (I_26 397 this).toInt := by rw [hg_52.2.1 397 (by decide) (by decide)]
            refine lv_aload_n hx hb dX12_beginOne_75 rfl (lv_at hl 0 rfl) ?_
            have hpsW : PSz (I_49 396 this).toInt (I_49 398 this).toInt (I_49 401 this).toInt (I_49 402 this).toInt (I_49 391 this).toInt (I_49 393 this).toInt (ri_27 this_a) (ri_27 this_pile) bb f0 fr ba tb nn K 1 := PSz_one hps (by omega) (x := (0 : Int32)) (fun j hj => hp_32 j (by omega)) (by rw [show (I 396 this).toInt + 250 + 2 * (I 398 this).toInt = (I 396 this).toInt + 250 + 2 * (I 398 this).toInt from by omega]; exact hp_33) (by decide) (by omega) (by omega) (by omega) (by omega) (by omega) (by omega) (by omega) (hp_34 this_pile (tg_ne hT_this_pile hT_this_a (by decide)))
            have htm : tmM (I_49 391 this).toInt (I_49 393 this).toInt < tmM (I 391 this).toInt (I 393 this).toInt := tm_lt (by omega) (by omega) (by omega)
            refine pk_v (va_runV (As := []) (rest := []) ⟨hx, hb, hml, hown, hts⟩ (s_X12_whole l D t σ I_49 J_50 ri_27 rj rq H.size tg hSH hG.1 this hL_this hK_this this_a hR_this_a hL_this_a hK_this_a hN_this_a hT_this_a this_pile hR_this_pile hL_this_pile hK_this_pile hN_this_pile hT_this_pile bb f0 fr ba tb nn K (by assumption)) (cwV 0 hts (tw_V tw_909 tw_910 tw_911 tw_5 tw_912) rfl rfl rfl cv_yX12_whole_0 ⟨Nat.le_of_ble_eq_true rfl, Nat.le_of_ble_eq_true rfl⟩) ⟨pq_blind, pq_recv hK hP hL_this hK_this (by decide) rfl, pq_pre hK hN hP hD⟩ rfl rfl hl.1 rfl (lv_room (Nat.le_of_ble_eq_true rfl)) dX12_beginOne_76 ⟨Nat.le_of_ble_eq_true rfl, Nat.le_of_ble_eq_true rfl⟩) hD hS hA (fun σ1 μ1 H locs hw_69 hP hD hS => ?_)
            obtain ⟨I_70, ri_71, hu_72, hg_73, hp_75, hp_76, hfn_77, hfr_78⟩ := hw_69
            obtain ⟨hu_72a, hu_72b⟩ := Prod.mk.inj hu_72
            rw [hu_72a, hu_72b] at hP hD
            replace hF := hF.trans (bv_n hfn_77)
            replace hFr := fr_tr hFr hfr_78
            have tt_79 := hp_76
            have hG := GM.tr hG hg_73 (by decide)
            have tt_80 : (I_70 396 this).toInt = (I_49 396 this).toInt := by rw [hg_73.2.1 396 (by decide) (by decide)]
            have tt_81 : (I_70 391 this).toInt = (I_49 391 this).toInt := by rw [hg_73.2.1 391 (by decide) (by decide)]
            have tt_82 : (I_70 393 this).toInt = (I_49 393 this).toInt := by rw [hg_73.2.1 393 (by decide) (by decide)]
            have tt_83 : (I_70 397 this).toInt = (I_49 397 this).toInt := by rw [hg_73.2.1 397 (by decide) (by decide)]
            refine lv_iconst (v := 0) hx hb dX12_beginOne_79 (by decide) ?_
            subst hQ
            exact W.iret (v := 0) hx hb hr (fun t1 ht hW => ⟨⟨0, (σ, I_70, J_50, ri_71, rj, rq), rfl, ⟨I_70, J_50, ri_71, rfl, hG, (Or.inr ⟨(by rw [show (I_70 403 this).toInt = 1 from by omega]; exact hp_75), tm_cg htm (by omega) (by omega) rfl rfl⟩), (hF0.symm.trans hF), hFr, (rg_w (rg_k (0 : Int32) 0 rfl) (by decide))⟩, by rw [ht]; exact hP, va_K.moved hW.alike hK, hD⟩, hS.F ht⟩) hS.2.2 dX12_beginOne_80
      · replace hF := hF.trans (if_neg c_7)
        have tc_84 : (I 393 this).toInt ≠ 1 := fun q => c_7 (Int32.toInt_inj.mp q)
        refine lv_aload_n hx hb dX12_beginOne_28 rfl (lv_at hl 0 rfl) ?_
        refine pk_i (va_runV (As := []) (rest := []) ⟨hx, hb, hml, hown, hts⟩ (s_X12_nameOf_x l D t σ I J ri rj rq H.size tg hSH hG.1 this hL_this hK_this) (cwV 0 hts (tw_V tw_921 tw_922 tw_923 tw_5 tw_924) rfl rfl rfl cv_yX12_nameOf_0 ⟨Nat.le_of_ble_eq_true rfl, Nat.le_of_ble_eq_true rfl⟩) ⟨pq_blind, pq_recv hK hP hL_this hK_this (by decide) rfl, pq_pre hK hN hP hD⟩ rfl rfl hl.1 rfl (lv_room (Nat.le_of_ble_eq_true rfl)) dX12_beginOne_29 ⟨Nat.le_of_ble_eq_true rfl, Nat.le_of_ble_eq_true rfl⟩) hD hS hA (fun x_85 σ1 μ1 H locs hw_86 hP hD hS => ?_)
        obtain ⟨hu_87, hp_90, hfn_91, hr_89⟩ := hw_86
        obtain ⟨hu_87a, hu_87b⟩ := Prod.mk.inj hu_87
        rw [hu_87a, hu_87b] at hP hD
        replace hF := hF.trans (bn_n hfn_91)
        have tt_93 := hp_90
        refine lv_if_lt (tgt := 81) hx hb dX12_beginOne_32 (by decide) (fun c_94 => ?_) (fun c_94 => ?_)
        · replace hF := hF.trans (if_pos c_94)
          have tc_99 : (x_85).toInt < 0 := Int32.lt_iff_toInt_lt.mp c_94
          have h_100 : rg x_85 (-1) (-1) := rg_lt1 c_94 hr_89 (rg_k (0 : Int32) 0 rfl) (by decide)
          have uh_100 := h_100.1
          have vh_100 := h_100.2
          refine lv_aload_n hx hb dX12_beginOne_81 rfl (lv_at hl 0 rfl) ?_
          refine pg_f (v := .int (I 393 this)) (C := RX12) (T := TX12) (N := 31) hx hb hts (tw_i inlX12) hown hK hP hL_this hK_this (by decide) rfl 9 (by decide) (hts _ (tw_c tw_831)) rfl dX12_beginOne_82 ?_
          refine lv_bipush (v := 40) hx hb dX12_beginOne_85 (by decide) ?_
          refine lv_icmp_eq (tgt := 101) hx hb dX12_beginOne_87 (by decide) (fun c_101 => ?_) (fun c_101 => ?_)
          · replace hF := hF.trans (if_pos c_101)
            have tc_105 : (I 393 this).toInt = 40 := congrArg Int32.toInt c_101
            have h_106 : rg (I 393 this) 40 40 := rg_and (rg_full _) (rg_of_eq c_101 (rg_k (40 : Int32) 40 rfl)) (by decide)
            have uh_106 := h_106.1
            have vh_106 := h_106.2
            refine lv_aload_n hx hb dX12_beginOne_101 rfl (lv_at hl 0 rfl) ?_
            refine pg_f (v := .int (I 402 this)) (C := RX12) (T := TX12) (N := 31) hx hb hts (tw_i inlX12) hown hK hP hL_this hK_this (by decide) rfl 18 (by decide) (hts _ (tw_c tw_828)) rfl dX12_beginOne_102 ?_
            replace hF := hF.trans (ap_n (vI_e (f := 402) hO_this (by decide)))
            refine lv_bipush (v := 8) hx hb dX12_beginOne_105 (by decide) ?_
            refine lv_icmp_ne (tgt := 112) hx hb dX12_beginOne_107 (by decide) (fun c_108 => ?_) (fun c_108 => ?_)
            · replace hF := hF.trans (if_neg c_108)
              have tc_112 : (I 402 this).toInt ≠ 8 := fun q => c_108 (Int32.toInt_inj.mp q)
              refine lv_aload_n hx hb dX12_beginOne_112 rfl (lv_at hl 0 rfl) ?_
              refine lv_dup hx hb dX12_beginOne_113 rfl ?_
              refine pg_f (v := .int (I 402 this)) (C := RX12) (T := TX12) (N := 31) hx hb hts (tw_i inlX12) hown hK hP hL_this hK_this (by decide) rfl 18 (by decide) (hts _ (tw_c tw_828)) rfl dX12_beginOne_114 ?_
              have hq0 := PSz_bd hps
              have h_113 : rg (I 402 this) 0 8 := ⟨by omega, by omega⟩
              have uh_113 := h_113.1
              have vh_113 := h_113.2
              refine lv_iconst (v := 1) hx hb dX12_beginOne_117 (by decide) ?_
              refine lv_iadd hx hb dX12_beginOne_118 ?_
              refine lv_topi (fun x_114 ex_114 => ?_)
              replace hF := hF.trans (ap_n ex_114)
              have h_115 : rg x_114 1 9 := rg_of_eq ex_114 (rg_add h_113 (rg_k (1 : Int32) 1 rfl) (by decide))
              have uh_115 := h_115.1
              have vh_115 := h_115.2
              have tx_114 : (x_114).toInt = (I 402 this).toInt + 1 := by rw [ex_114]; exact i_add_rg (a2 := (I 402 this).toInt) (b2 := 1) rfl rfl h_113 (rg_k (1 : Int32) 1 rfl) (by decide)
              refine pp_i (v := x_114) (ty := .int) (C := RX12) (T := TX12) (N := 31) hx hb hts (tw_i inlX12) tyX12 tyX12_ok nmX12 hown hK hP hD hS hL_this hK_this (by decide) rfl 18 402 (by decide) (hts _ (tw_c tw_828)) rfl (tyX12_ok 18 (by decide)) rfl rfl (Nat.le_of_ble_eq_true rfl) (ps_402 _ _ _ _ _) dX12_beginOne_119 (fun I_116 H locs eI_116 hP hD hS => ?_)
              replace hFr := fr_I (f := 402) hFr hO_this (by decide) eI_116
              replace hF := hF.trans (ap_n (vI_st (f := 402) hO_this (by decide) eI_116))
              have hG := GM.wI hG 402 rfl eI_116 (rg_w h_115 (by decide)) (by decide)
              have tt_117 : (I_116 396 this).toInt = (I 396 this).toInt := by rw [eI_116, pq_uf _ _ _ (by decide)]
              have tt_118 : (I_116 398 this).toInt = (I 398 this).toInt := by rw [eI_116, pq_uf _ _ _ (by decide)]
              have tt_119 : (I_116 401 this).toInt = (I 401 this).toInt := by rw [eI_116, pq_uf _ _ _ (by decide)]
              have tt_120 : (I_116 402 this).toInt = (x_114).toInt := by rw [eI_116, pq_us]
              have tt_121 : (I_116 391 this).toInt = (I 391 this).toInt := by rw [eI_116, pq_uf _ _ _ (by decide)]
              have tt_122 : (I_116 393 this).toInt = (I 393 this).toInt := by rw [eI_116, pq_uf _ _ _ (by decide)]
              have tt_123 : (I_116 403 this).toInt = (I 403 this).toInt := by rw [eI_116, pq_uf _ _ _ (by decide)]
              have tt_124 : (I_116 397 this).toInt = (I 397 this).toInt := by rw [eI_116, pq_uf _ _ _ (by decide)]
              refine lv_aload_n hx hb dX12_beginOne_122 rfl (lv_at hl 0 rfl) ?_
              refine lv_aload_n hx hb dX12_beginOne_123 rfl (lv_at hl 0 rfl) ?_
              refine pg_f (v := .int (I_116 393 this)) (C := RX12) (T := TX12) (N := 31) hx hb hts (tw_i inlX12) hown hK hP hL_this hK_this (by decide) rfl 9 (by decide) (hts _ (tw_c tw_831)) rfl dX12_beginOne_124 ?_
              have h_125 : rg (I_116 393 this) 40 40 := (by rw [eI_116, pq_uf _ _ _ (by decide)]; exact h_106)
              have uh_125 := h_125.1
              have vh_125 := h_125.2
              replace hF := hF.trans (ap_n (vI_e (f := 393) hO_this (by decide)))
              refine lv_bipush (v := 40) hx hb dX12_beginOne_127 (by decide) ?_
              refine lv_icmp_ne (tgt := 137) hx hb dX12_beginOne_129 (by decide) (fun c_127 => ?_) (fun c_127 => ?_)
              · have tc_130 : (I_116 393 this).toInt ≠ 40 := fun q => c_127 (Int32.toInt_inj.mp q)
                exact (rg_empty (rg_ne c_127 h_125 40 rfl (lo := 41) (hi := 39) (by decide)) (by decide)).elim
              · have tc_131 : (I_116 393 this).toInt = 40 := congrArg Int32.toInt c_127
                refine lv_bipush (v := 40) hx hb dX12_beginOne_132 (by decide) ?_
                refine lv_goto (tgt := 138) hx hb dX12_beginOne_134 (by decide) ?_
                have hq3 := PSz_bd hps
                refine pk_v (va_runV (As := [.int 40]) (rest := []) ⟨hx, hb, hml, hown, hts⟩ (s_X12_push l D t σ I_116 J ri rj rq H.size tg hSH hG.1 this (40 : Int32) hL_this hK_this (rg_w (rg_k (40 : Int32) 40 rfl) (by decide)) this_pile hR_this_pile hL_this_pile hK_this_pile hN_this_pile hT_this_pile (by omega)) (cwV 1 hts (tw_V tw_913 tw_914 tw_915 tw_5 tw_916) rfl rfl rfl cv_yX12_push_1 ⟨Nat.le_of_ble_eq_true rfl, Nat.le_of_ble_eq_true rfl⟩) ⟨pq_blind, pq_recv hK hP hL_this hK_this (by decide) rfl, pq_pre hK hN hP hD⟩ rfl rfl hl.1 rfl (lv_room (Nat.le_of_ble_eq_true rfl)) dX12_beginOne_138 ⟨Nat.le_of_ble_eq_true rfl, Nat.le_of_ble_eq_true rfl⟩) hD hS hA (fun σ1 μ1 H locs hw_133 hP hD hS => ?_)
                obtain ⟨I_134, ri_135, hu_136, hg_137, hp_139, hp_140, hp_141, hfn_142, hfr_143⟩ := hw_133
                obtain ⟨hu_136a, hu_136b⟩ := Prod.mk.inj hu_136
                rw [hu_136a, hu_136b] at hP hD
                replace hF := hF.trans (bv_n hfn_142)
                replace hFr := fr_tr hFr hfr_143
                obtain ⟨v_144, ev_144, hv_144⟩ := hp_139
                have tt_145 : (I_134 401 this).toInt = (I_116 401 this).toInt + 1 := by rw [ev_144, pq_us]; exact hv_144
                have tt_146 : (I_134 403 this).toInt = (I_116 403 this).toInt := by rw [ev_144, pq_uf _ _ _ (by decide)]
                have hG := GM.tr hG hg_137 (by decide)
                have tt_147 : (I_134 396 this).toInt = (I_116 396 this).toInt := by rw [hg_137.2.1 396 (by decide) (by decide)]
                have tt_148 : (I_134 398 this).toInt = (I_116 398 this).toInt := by rw [hg_137.2.1 398 (by decide) (by decide)]
                have tt_149 : (I_134 402 this).toInt = (I_116 402 this).toInt := by rw [hg_137.2.1 402 (by decide) (by decide)]
                have tt_150 : (I_134 391 this).toInt = (I_116 391 this).toInt := by rw [hg_137.2.1 391 (by decide) (by decide)]
                have tt_151 : (I_134 393 this).toInt = (I_116 393 this).toInt := by rw [hg_137.2.1 393 (by decide) (by decide)]
                have tt_152 : (I_134 397 this).toInt = (I_116 397 this).toInt := by rw [hg_137.2.1 397 (by decide) (by decide)]
                refine lv_aload_n hx hb dX12_beginOne_141 rfl (lv_at hl 0 rfl) ?_
                obtain ⟨w_153, hR_w_153, hL_w_153, hK_w_153, hN_w_153, hT_w_153⟩ := sh_a hSH 387 (ci := 12) (kd := 13) (len := 300) rfl (by decide) hL_this hK_this
                have hO_w_153 : w_153 = vrow σ 387 this := vo_k (c := 12) hO_this hR_w_153
                refine pk_v (va_runV (As := []) (rest := []) ⟨hx, hb, hml, hown, hts⟩ (s_X12_nextToken_x l D t σ I_134 J ri_135 rj rq H.size tg hSH hG.1 this hL_this hK_this w_153 hR_w_153 hL_w_153 hK_w_153 hN_w_153 hT_w_153) (cwV 0 hts (tw_V tw_832 tw_833 tw_834 tw_5 tw_835) rfl rfl rfl cv_yX12_nextToken_0 ⟨Nat.le_of_ble_eq_true rfl, Nat.le_of_ble_eq_true rfl⟩) ⟨pq_blind, pq_recv hK hP hL_this hK_this (by decide) rfl, pq_pre hK hN hP hD⟩ rfl rfl hl.1 rfl (lv_room (Nat.le_of_ble_eq_true rfl)) dX12_beginOne_142 ⟨Nat.le_of_ble_eq_true rfl, Nat.le_of_ble_eq_true rfl⟩) hD hS hA (fun σ1 μ1 H locs hw_155 hP hD hS => ?_)
                obtain ⟨I_156, J_157, hu_158, hg_159, hp_161, hp_162, hp_163, hfn_164, hfr_165⟩ := hw_155
                obtain ⟨hu_158a, hu_158b⟩ := Prod.mk.inj hu_158
                rw [hu_158a, hu_158b] at hP hD
                replace hF := hF.trans (bv_n hfn_164)
                replace hFr := fr_tr hFr hfr_165
                have tt_166 := hp_161
                have tt_167 := hp_162
                have tt_168 := hp_163
                have tt_169 : (I_156 391 this).toInt ≤ 300 := by have z := hg_159.1.1 391 this; exact z.2
                have hG := GM.tr hG hg_159 (by decide)
                have tt_170 : (I_156 396 this).toInt = (I_134 396 this).toInt := by rw [hg_159.2.1 396 (by decide) (by decide)]
                have tt_171 : (I_156 398 this).toInt = (I_134 398 this).toInt := by rw [hg_159.2.1 398 (by decide) (by decide)]
                have tt_172 : (I_156 401 this).toInt = (I_134 401 this).toInt := by rw [hg_159.2.1 401 (by decide) (by decide)]
                have tt_173 : (I_156 402 this).toInt = (I_134 402 this).toInt := by rw [hg_159.2.1 402 (by decide) (by decide)]
                have tt_174 : (I_156 397 this).toInt = (I_134 397 this).toInt := by rw [hg_159.2.1 397 (by decide) (by decide)]
                have hup2 : ri_135 this_pile = upd (ri this_pile) (I 401 this).toInt.toNat (40 : Int32) := by rw [show (I 401 this).toInt = (I_116 401 this).toInt from by omega]; exact hp_140
                have hpsW : PSz (I_156 396 this).toInt (I_156 398 this).toInt (I_156 401 this).toInt (I_156 402 this).toInt (I_156 391 this).toInt (I_156 393 this).toInt (ri_135 this_a) (ri_135 this_pile) bb f0 fr ba tb nn K 0 := PSz_open hps (by omega) (by omega) (x := (40 : Int32)) (by decide) (by omega) (by omega) (by omega) (by omega) (by omega) (by omega) (by omega) (hp_141 this_a (tg_ne hT_this_a hT_this_pile (by decide))) hup2
                have htm : tmM (I_156 391 this).toInt (I_156 393 this).toInt < tmM (I 391 this).toInt (I 393 this).toInt := tm_lt (by omega) (by omega) (by omega)
                refine lv_iconst (v := 0) hx hb dX12_beginOne_145 (by decide) ?_
                subst hQ
                exact W.iret (v := 0) hx hb hr (fun t1 ht hW => ⟨⟨0, (σ, I_156, J_157, ri_135, rj, rq), rfl, ⟨I_156, J_157, ri_135, rfl, hG, (Or.inr ⟨(by rw [show (I_156 403 this).toInt = 0 from by omega]; exact hpsW), tm_cg htm (by omega) (by omega) rfl rfl⟩), (hF0.symm.trans hF), hFr, (rg_w (rg_k (0 : Int32) 0 rfl) (by decide))⟩, by rw [ht]; exact hP, va_K.moved hW.alike hK, hD⟩, hS.F ht⟩) hS.2.2 dX12_beginOne_146
            · replace hF := hF.trans (if_pos c_108)
              have tc_175 : (I 402 this).toInt = 8 := congrArg Int32.toInt c_108
              have h_176 : rg (I 402 this) 8 8 := rg_and (rg_full _) (rg_of_eq c_108 (rg_k (8 : Int32) 8 rfl)) (by decide)
              have uh_176 := h_176.1
              have vh_176 := h_176.2
              refine lv_iconst (v := 3) hx hb dX12_beginOne_110 (by decide) ?_
              subst hQ
              exact W.iret (v := 3) hx hb hr (fun t1 ht hW => ⟨⟨3, (σ, I, J, ri, rj, rq), rfl, ⟨I, J, ri, rfl, hG, (Or.inl (by decide)), (hF0.symm.trans hF), hFr, (rg_w (rg_k (3 : Int32) 3 rfl) (by decide))⟩, by rw [ht]; exact hP, va_K.moved hW.alike hK, hD⟩, hS.F ht⟩) hS.2.2 dX12_beginOne_111
          · replace hF := hF.trans (if_neg c_101)
            have tc_177 : (I 393 this).toInt ≠ 40 := fun q => c_101 (Int32.toInt_inj.mp q)
            refine lv_aload_n hx hb dX12_beginOne_90 rfl (lv_at hl 0 rfl) ?_
            refine pg_f (v := .int (I 393 this)) (C := RX12) (T := TX12) (N := 31) hx hb hts (tw_i inlX12) hown hK hP hL_this hK_this (by decide) rfl 9 (by decide) (hts _ (tw_c tw_831)) rfl dX12_beginOne_91 ?_
            refine lv_bipush (v := 45) hx hb dX12_beginOne_94 (by decide) ?_
            refine lv_icmp_eq (tgt := 101) hx hb dX12_beginOne_96 (by decide) (fun c_178 => ?_) (fun c_178 => ?_)
            · replace hF := hF.trans (if_pos c_178)
              have tc_182 : (I 393 this).toInt = 45 := congrArg Int32.toInt c_178
              have h_183 : rg (I 393 this) 45 45 := rg_and (rg_full _) (rg_of_eq c_178 (rg_k (45 : Int32) 45 rfl)) (by decide)
              have uh_183 := h_183.1
              have vh_183 := h_183.2
              refine lv_aload_n hx hb dX12_beginOne_101 rfl (lv_at hl 0 rfl) ?_
              refine pg_f (v := .int (I 402 this)) (C := RX12) (T := TX12) (N := 31) hx hb hts (tw_i inlX12) hown hK hP hL_this hK_this (by decide) rfl 18 (by decide) (hts _ (tw_c tw_828)) rfl dX12_beginOne_102 ?_
              replace hF := hF.trans (ap_n (vI_e (f := 402) hO_this (by decide)))
              refine lv_bipush (v := 8) hx hb dX12_beginOne_105 (by decide) ?_
              refine lv_icmp_ne (tgt := 112) hx hb dX12_beginOne_107 (by decide) (fun c_185 => ?_) (fun c_185 => ?_)
              · replace hF := hF.trans (if_neg c_185)
                have tc_189 : (I 402 this).toInt ≠ 8 := fun q => c_185 (Int32.toInt_inj.mp q)
                refine lv_aload_n hx hb dX12_beginOne_112 rfl (lv_at hl 0 rfl) ?_
                refine lv_dup hx hb dX12_beginOne_113 rfl ?_
                refine pg_f (v := .int (I 402 this)) (C := RX12) (T := TX12) (N := 31) hx hb hts (tw_i inlX12) hown hK hP hL_this hK_this (by decide) rfl 18 (by decide) (hts _ (tw_c tw_828)) rfl dX12_beginOne_114 ?_
                have hq0 := PSz_bd hps
                have h_190 : rg (I 402 this) 0 8 := ⟨by omega, by omega⟩
                have uh_190 := h_190.1
                have vh_190 := h_190.2
                refine lv_iconst (v := 1) hx hb dX12_beginOne_117 (by decide) ?_
                refine lv_iadd hx hb dX12_beginOne_118 ?_
                refine lv_topi (fun x_191 ex_191 => ?_)
                replace hF := hF.trans (ap_n ex_191)
                have h_192 : rg x_191 1 9 := rg_of_eq ex_191 (rg_add h_190 (rg_k (1 : Int32) 1 rfl) (by decide))
                have uh_192 := h_192.1
                have vh_192 := h_192.2
                have tx_191 : (x_191).toInt = (I 402 this).toInt + 1 := by rw [ex_191]; exact i_add_rg (a2 := (I 402 this).toInt) (b2 := 1) rfl rfl h_190 (rg_k (1 : Int32) 1 rfl) (by decide)
                refine pp_i (v := x_191) (ty := .int) (C := RX12) (T := TX12) (N := 31) hx hb hts (tw_i inlX12) tyX12 tyX12_ok nmX12 hown hK hP hD hS hL_this hK_this (by decide) rfl 18 402 (by decide) (hts _ (tw_c tw_828)) rfl (tyX12_ok 18 (by decide)) rfl rfl (Nat.le_of_ble_eq_true rfl) (ps_402 _ _ _ _ _) dX12_beginOne_119 (fun I_193 H locs eI_193 hP hD hS => ?_)
                replace hFr := fr_I (f := 402) hFr hO_this (by decide) eI_193
                replace hF := hF.trans (ap_n (vI_st (f := 402) hO_this (by decide) eI_193))
                have hG := GM.wI hG 402 rfl eI_193 (rg_w h_192 (by decide)) (by decide)
                have tt_194 : (I_193 396 this).toInt = (I 396 this).toInt := by rw [eI_193, pq_uf _ _ _ (by decide)]
                have tt_195 : (I_193 398 this).toInt = (I 398 this).toInt := by rw [eI_193, pq_uf _ _ _ (by decide)]
                have tt_196 : (I_193 401 this).toInt = (I 401 this).toInt := by rw [eI_193, pq_uf _ _ _ (by decide)]
                have tt_197 : (I_193 402 this).toInt = (x_191).toInt := by rw [eI_193, pq_us]
                have tt_198 : (I_193 391 this).toInt = (I 391 this).toInt := by rw [eI_193, pq_uf _ _ _ (by decide)]
                have tt_199 : (I_193 393 this).toInt = (I 393 this).toInt := by rw [eI_193, pq_uf _ _ _ (by decide)]
                have tt_200 : (I_193 403 this).toInt = (I 403 this).toInt := by rw [eI_193, pq_uf _ _ _ (by decide)]
                have tt_201 : (I_193 397 this).toInt = (I 397 this).toInt := by rw [eI_193, pq_uf _ _ _ (by decide)]
                refine lv_aload_n hx hb dX12_beginOne_122 rfl (lv_at hl 0 rfl) ?_
                refine lv_aload_n hx hb dX12_beginOne_123 rfl (lv_at hl 0 rfl) ?_
                refine pg_f (v := .int (I_193 393 this)) (C := RX12) (T := TX12) (N := 31) hx hb hts (tw_i inlX12) hown hK hP hL_this hK_this (by decide) rfl 9 (by decide) (hts _ (tw_c tw_831)) rfl dX12_beginOne_124 ?_
                have h_202 : rg (I_193 393 this) 45 45 := (by rw [eI_193, pq_uf _ _ _ (by decide)]; exact h_183)
                have uh_202 := h_202.1
                have vh_202 := h_202.2
                replace hF := hF.trans (ap_n (vI_e (f := 393) hO_this (by decide)))
                refine lv_bipush (v := 40) hx hb dX12_beginOne_127 (by decide) ?_
                refine lv_icmp_ne (tgt := 137) hx hb dX12_beginOne_129 (by decide) (fun c_204 => ?_) (fun c_204 => ?_)
                · have tc_207 : (I_193 393 this).toInt ≠ 40 := fun q => c_204 (Int32.toInt_inj.mp q)
                  refine lv_iconst (v := 2) hx hb dX12_beginOne_137 (by decide) ?_
                  have hq3 := PSz_bd hps
                  refine pk_v (va_runV (As := [.int 2]) (rest := []) ⟨hx, hb, hml, hown, hts⟩ (s_X12_push l D t σ I_193 J ri rj rq H.size tg hSH hG.1 this (2 : Int32) hL_this hK_this (rg_w (rg_k (2 : Int32) 2 rfl) (by decide)) this_pile hR_this_pile hL_this_pile hK_this_pile hN_this_pile hT_this_pile (by omega)) (cwV 1 hts (tw_V tw_913 tw_914 tw_915 tw_5 tw_916) rfl rfl rfl cv_yX12_push_1 ⟨Nat.le_of_ble_eq_true rfl, Nat.le_of_ble_eq_true rfl⟩) ⟨pq_blind, pq_recv hK hP hL_this hK_this (by decide) rfl, pq_pre hK hN hP hD⟩ rfl rfl hl.1 rfl (lv_room (Nat.le_of_ble_eq_true rfl)) dX12_beginOne_138 ⟨Nat.le_of_ble_eq_true rfl, Nat.le_of_ble_eq_true rfl⟩) hD hS hA (fun σ1 μ1 H locs hw_209 hP hD hS => ?_)
                  obtain ⟨I_210, ri_211, hu_212, hg_213, hp_215, hp_216, hp_217, hfn_218, hfr_219⟩ := hw_209
                  obtain ⟨hu_212a, hu_212b⟩ := Prod.mk.inj hu_212
                  rw [hu_212a, hu_212b] at hP hD
                  replace hF := hF.trans (bv_n hfn_218)
                  replace hFr := fr_tr hFr hfr_219
                  obtain ⟨v_220, ev_220, hv_220⟩ := hp_215
                  have tt_221 : (I_210 401 this).toInt = (I_193 401 this).toInt + 1 := by rw [ev_220, pq_us]; exact hv_220
                  have tt_222 : (I_210 403 this).toInt = (I_193 403 this).toInt := by rw [ev_220, pq_uf _ _ _ (by decide)]
                  have hG := GM.tr hG hg_213 (by decide)
                  have tt_223 : (I_210 396 this).toInt = (I_193 396 this).toInt := by rw [hg_213.2.1 396 (by decide) (by decide)]
                  have tt_224 : (I_210 398 this).toInt = (I_193 398 this).toInt := by rw [hg_213.2.1 398 (by decide) (by decide)]
                  have tt_225 : (I_210 402 this).toInt = (I_193 402 this).toInt := by rw [hg_213.2.1 402 (by decide) (by decide)]
                  have tt_226 : (I_210 391 this).toInt = (I_193 391 this).toInt := by rw [hg_213.2.1 391 (by decide) (by decide)]
                  have tt_227 : (I_210 393 this).toInt = (I_193 393 this).toInt := by rw [hg_213.2.1 393 (by decide) (by decide)]
                  have tt_228 : (I_210 397 this).toInt = (I_193 397 this).toInt := by rw [hg_213.2.1 397 (by decide) (by decide)]
                  refine lv_aload_n hx hb dX12_beginOne_141 rfl (lv_at hl 0 rfl) ?_
                  obtain ⟨w_229, hR_w_229, hL_w_229, hK_w_229, hN_w_229, hT_w_229⟩ := sh_a hSH 387 (ci := 12) (kd := 13) (len := 300) rfl (by decide) hL_this hK_this
                  have hO_w_229 : w_229 = vrow σ 387 this := vo_k (c := 12) hO_this hR_w_229
                  refine pk_v (va_runV (As := []) (rest := []) ⟨hx, hb, hml, hown, hts⟩ (s_X12_nextToken_x l D t σ I_210 J ri_211 rj rq H.size tg hSH hG.1 this hL_this hK_this w_229 hR_w_229 hL_w_229 hK_w_229 hN_w_229 hT_w_229) (cwV 0 hts (tw_V tw_832 tw_833 tw_834 tw_5 tw_835) rfl rfl rfl cv_yX12_nextToken_0 ⟨Nat.le_of_ble_eq_true rfl, Nat.le_of_ble_eq_true rfl⟩) ⟨pq_blind, pq_recv hK hP hL_this hK_this (by decide) rfl, pq_pre hK hN hP hD⟩ rfl rfl hl.1 rfl (lv_room (Nat.le_of_ble_eq_true rfl)) dX12_beginOne_142 ⟨Nat.le_of_ble_eq_true rfl, Nat.le_of_ble_eq_true rfl⟩) hD hS hA (fun σ1 μ1 H locs hw_231 hP hD hS => ?_)
                  obtain ⟨I_232, J_233, hu_234, hg_235, hp_237, hp_238, hp_239, hfn_240, hfr_241⟩ := hw_231
                  obtain ⟨hu_234a, hu_234b⟩ := Prod.mk.inj hu_234
                  rw [hu_234a, hu_234b] at hP hD
                  replace hF := hF.trans (bv_n hfn_240)
                  replace hFr := fr_tr hFr hfr_241
                  have tt_242 := hp_237
                  have tt_243 := hp_238
                  have tt_244 := hp_239
                  have tt_245 : (I_232 391 this).toInt ≤ 300 := by have z := hg_235.1.1 391 this; exact z.2
                  have hG := GM.tr hG hg_235 (by decide)
                  have tt_246 : (I_232 396 this).toInt = (I_210 396 this).toInt := by rw [hg_235.2.1 396 (by decide) (by decide)]
                  have tt_247 : (I_232 398 this).toInt = (I_210 398 this).toInt := by rw [hg_235.2.1 398 (by decide) (by decide)]
                  have tt_248 : (I_232 401 this).toInt = (I_210 401 this).toInt := by rw [hg_235.2.1 401 (by decide) (by decide)]
                  have tt_249 : (I_232 402 this).toInt = (I_210 402 this).toInt := by rw [hg_235.2.1 402 (by decide) (by decide)]
                  have tt_250 : (I_232 397 this).toInt = (I_210 397 this).toInt := by rw [hg_235.2.1 397 (by decide) (by decide)]
                  have hup2 : ri_211 this_pile = upd (ri this_pile) (I 401 this).toInt.toNat (2 : Int32) := by rw [show (I 401 this).toInt = (I_193 401 this).toInt from by omega]; exact hp_216
                  have hpsW : PSz (I_232 396 this).toInt (I_232 398 this).toInt (I_232 401 this).toInt (I_232 402 this).toInt (I_232 391 this).toInt (I_232 393 this).toInt (ri_211 this_a) (ri_211 this_pile) bb f0 fr ba tb nn K 0 := PSz_open hps (by omega) (by omega) (x := (2 : Int32)) (by decide) (by omega) (by omega) (by omega) (by omega) (by omega) (by omega) (by omega) (hp_217 this_a (tg_ne hT_this_a hT_this_pile (by decide))) hup2
                  have htm : tmM (I_232 391 this).toInt (I_232 393 this).toInt < tmM (I 391 this).toInt (I 393 this).toInt := tm_lt (by omega) (by omega) (by omega)
                  refine lv_iconst (v := 0) hx hb dX12_beginOne_145 (by decide) ?_
                  subst hQ
                  exact W.iret (v := 0) hx hb hr (fun t1 ht hW => ⟨⟨0, (σ, I_232, J_233, ri_211, rj, rq), rfl, ⟨I_232, J_233, ri_211, rfl, hG, (Or.inr ⟨(by rw [show (I_232 403 this).toInt = 0 from by omega]; exact hpsW), tm_cg htm (by omega) (by omega) rfl rfl⟩), (hF0.symm.trans hF), hFr, (rg_w (rg_k (0 : Int32) 0 rfl) (by decide))⟩, by rw [ht]; exact hP, va_K.moved hW.alike hK, hD⟩, hS.F ht⟩) hS.2.2 dX12_beginOne_146
                · have tc_251 : (I_193 393 this).toInt = 40 := congrArg Int32.toInt c_204
                  exact (rg_empty (rg_and h_202 (rg_of_eq c_204 (rg_k (40 : Int32) 40 rfl)) (lo := 45) (hi := 40) (by decide)) (by decide)).elim
              · replace hF := hF.trans (if_pos c_185)
                have tc_252 : (I 402 this).toInt = 8 := congrArg Int32.toInt c_185
                have h_253 : rg (I 402 this) 8 8 := rg_and (rg_full _) (rg_of_eq c_185 (rg_k (8 : Int32) 8 rfl)) (by decide)
                have uh_253 := h_253.1
                have vh_253 := h_253.2
                refine lv_iconst (v := 3) hx hb dX12_beginOne_110 (by decide) ?_
                subst hQ
                exact W.iret (v := 3) hx hb hr (fun t1 ht hW => ⟨⟨3, (σ, I, J, ri, rj, rq), rfl, ⟨I, J, ri, rfl, hG, (Or.inl (by decide)), (hF0.symm.trans hF), hFr, (rg_w (rg_k (3 : Int32) 3 rfl) (by decide))⟩, by rw [ht]; exact hP, va_K.moved hW.alike hK, hD⟩, hS.F ht⟩) hS.2.2 dX12_beginOne_111
            · replace hF := hF.trans (if_neg c_178)
              have tc_254 : (I 393 this).toInt ≠ 45 := fun q => c_178 (Int32.toInt_inj.mp q)
              refine lv_iconst (v := 1) hx hb dX12_beginOne_99 (by decide) ?_
              subst hQ
              exact W.iret (v := 1) hx hb hr (fun t1 ht hW => ⟨⟨1, (σ, I, J, ri, rj, rq), rfl, ⟨I, J, ri, rfl, hG, (Or.inl (by decide)), (hF0.symm.trans hF), hFr, (rg_w (rg_k (1 : Int32) 1 rfl) (by decide))⟩, by rw [ht]; exact hP, va_K.moved hW.alike hK, hD⟩, hS.F ht⟩) hS.2.2 dX12_beginOne_100
        · replace hF := hF.trans (if_neg c_94)
          have tc_255 : 0 ≤ (x_85).toInt := Int32.le_iff_toInt_le.mp (nlt c_94)
          have h_256 : rg x_85 0 5 := rg_le2 (nlt c_94) (rg_k (0 : Int32) 0 rfl) hr_89 (by decide)
          have uh_256 := h_256.1
          have vh_256 := h_256.2
          refine lv_aload_n hx hb dX12_beginOne_35 rfl (lv_at hl 0 rfl) ?_
          refine lv_aload_n hx hb dX12_beginOne_36 rfl (lv_at hl 0 rfl) ?_
          refine pg_f (v := .int (I 393 this)) (C := RX12) (T := TX12) (N := 31) hx hb hts (tw_i inlX12) hown hK hP hL_this hK_this (by decide) rfl 9 (by decide) (hts _ (tw_c tw_831)) rfl dX12_beginOne_37 ?_
          refine lv_iconst (v := 1) hx hb dX12_beginOne_40 (by decide) ?_
          refine lv_icmp_ne (tgt := 48) hx hb dX12_beginOne_41 (by decide) (fun c_257 => ?_) (fun c_257 => ?_)
          · replace hF := hF.trans (if_neg c_257)
            have tc_261 : (I 393 this).toInt ≠ 1 := fun q => c_257 (Int32.toInt_inj.mp q)
            refine lv_iconst (v := 1) hx hb dX12_beginOne_48 (by decide) ?_
            refine lv_aload_n hx hb dX12_beginOne_49 rfl (lv_at hl 0 rfl) ?_
            refine pg_f (v := .int (I 393 this)) (C := RX12) (T := TX12) (N := 31) hx hb hts (tw_i inlX12) hown hK hP hL_this hK_this (by decide) rfl 9 (by decide) (hts _ (tw_c tw_831)) rfl dX12_beginOne_50 ?_
            refine lv_iconst (v := 1) hx hb dX12_beginOne_53 (by decide) ?_
            refine lv_icmp_ne (tgt := 64) hx hb dX12_beginOne_54 (by decide) (fun c_262 => ?_) (fun c_262 => ?_)
            · replace hF := hF.trans (if_neg c_262)
              have tc_266 : (I 393 this).toInt ≠ 1 := fun q => c_262 (Int32.toInt_inj.mp q)
              refine lv_aload_n hx hb dX12_beginOne_64 rfl (lv_at hl 0 rfl) ?_
              refine pk_i (va_runV (As := []) (rest := [.int 1, .ref this]) ⟨hx, hb, hml, hown, hts⟩ (s_X12_nameOf_x l D t σ I J ri rj rq H.size tg hSH hG.1 this hL_this hK_this) (cwV 0 hts (tw_V tw_921 tw_922 tw_923 tw_5 tw_924) rfl rfl rfl cv_yX12_nameOf_0 ⟨Nat.le_of_ble_eq_true rfl, Nat.le_of_ble_eq_true rfl⟩) ⟨pq_blind, pq_recv hK hP hL_this hK_this (by decide) rfl, pq_pre hK hN hP hD⟩ rfl rfl hl.1 rfl (lv_room (Nat.le_of_ble_eq_true rfl)) dX12_beginOne_65 ⟨Nat.le_of_ble_eq_true rfl, Nat.le_of_ble_eq_true rfl⟩) hD hS hA (fun x_267 σ1 μ1 H locs hw_268 hP hD hS => ?_)
              obtain ⟨hu_269, hp_272, hfn_273, hr_271⟩ := hw_268
              obtain ⟨hu_269a, hu_269b⟩ := Prod.mk.inj hu_269
              rw [hu_269a, hu_269b] at hP hD
              replace hF := hF.trans (bn_n hfn_273)
              have tt_275 := hp_272
              have hq1 := PSz_t hps
              have hq2 := PSz_w hps (Or.inl (by omega))
              refine pk_v (va_runV (As := [.int 1, .int x_267]) (rest := []) ⟨hx, hb, hml, hown, hts⟩ (s_X12_emit l D t σ I J ri rj rq H.size tg hSH hG.1 this (1 : Int32) x_267 hL_this hK_this this_a hR_this_a hL_this_a hK_this_a hN_this_a hT_this_a (by omega) (by omega)) (cwV 2 hts (tw_V tw_905 tw_906 tw_907 tw_5 tw_908) rfl rfl rfl cv_yX12_emit_2 ⟨Nat.le_of_ble_eq_true rfl, Nat.le_of_ble_eq_true rfl⟩) ⟨pq_blind, pq_recv hK hP hL_this hK_this (by decide) rfl, pq_pre hK hN hP hD⟩ rfl rfl hl.1 rfl (lv_room (Nat.le_of_ble_eq_true rfl)) dX12_beginOne_68 ⟨Nat.le_of_ble_eq_true rfl, Nat.le_of_ble_eq_true rfl⟩) hD hS hA (fun σ1 μ1 H locs hw_277 hP hD hS => ?_)
              obtain ⟨I_278, ri_279, hu_280, hg_281, hp_283, hp_284, hp_285, hp_286, hfn_287, hfr_288⟩ := hw_277
              obtain ⟨hu_280a, hu_280b⟩ := Prod.mk.inj hu_280
              rw [hu_280a, hu_280b] at hP hD
              replace hF := hF.trans (bv_n hfn_287)
              replace hFr := fr_tr hFr hfr_288
              obtain ⟨v_289, ev_289, hv_289⟩ := hp_283
              have tt_290 : (I_278 398 this).toInt = (I 398 this).toInt + 1 := by rw [ev_289, pq_us]; exact hv_289
              have tt_291 : (I_278 403 this).toInt = (I 403 this).toInt := by rw [ev_289, pq_uf _ _ _ (by decide)]
              have hG := GM.tr hG hg_281 (by decide)
              have tt_292 : (I_278 396 this).toInt = (I 396 this).toInt := by rw [hg_281.2.1 396 (by decide) (by decide)]
              have tt_293 : (I_278 401 this).toInt = (I 401 this).toInt := by rw [hg_281.2.1 401 (by decide) (by decide)]
              have tt_294 : (I_278 402 this).toInt = (I 402 this).toInt := by rw [hg_281.2.1 402 (by decide) (by decide)]
              have tt_295 : (I_278 391 this).toInt = (I 391 this).toInt := by rw [hg_281.2.1 391 (by decide) (by decide)]
              have tt_296 : (I_278 393 this).toInt = (I 393 this).toInt := by rw [hg_281.2.1 393 (by decide) (by decide)]
              have tt_297 : (I_278 397 this).toInt = (I 397 this).toInt := by rw [hg_281.2.1 397 (by decide) (by decide)]
              refine lv_aload_n hx hb dX12_beginOne_71 rfl (lv_at hl 0 rfl) ?_
              obtain ⟨w_298, hR_w_298, hL_w_298, hK_w_298, hN_w_298, hT_w_298⟩ := sh_a hSH 387 (ci := 12) (kd := 13) (len := 300) rfl (by decide) hL_this hK_this
              have hO_w_298 : w_298 = vrow σ 387 this := vo_k (c := 12) hO_this hR_w_298
              refine pk_v (va_runV (As := []) (rest := []) ⟨hx, hb, hml, hown, hts⟩ (s_X12_nextToken_x l D t σ I_278 J ri_279 rj rq H.size tg hSH hG.1 this hL_this hK_this w_298 hR_w_298 hL_w_298 hK_w_298 hN_w_298 hT_w_298) (cwV 0 hts (tw_V tw_832 tw_833 tw_834 tw_5 tw_835) rfl rfl rfl cv_yX12_nextToken_0 ⟨Nat.le_of_ble_eq_true rfl, Nat.le_of_ble_eq_true rfl⟩) ⟨pq_blind, pq_recv hK hP hL_this hK_this (by decide) rfl, pq_pre hK hN hP hD⟩ rfl rfl hl.1 rfl (lv_room (Nat.le_of_ble_eq_true rfl)) dX12_beginOne_72 ⟨Nat.le_of_ble_eq_true rfl, Nat.le_of_ble_eq_true rfl⟩) hD hS hA (fun σ1 μ1 H locs hw_300 hP hD hS => ?_)
              obtain ⟨I_301, J_302, hu_303, hg_304, hp_306, hp_307, hp_308, hfn_309, hfr_310⟩ := hw_300
              obtain ⟨hu_303a, hu_303b⟩ := Prod.mk.inj hu_303
              rw [hu_303a, hu_303b] at hP hD
              replace hF := hF.trans (bv_n hfn_309)
              replace hFr := fr_tr hFr hfr_310
              have tt_311 := hp_306
              have tt_312 := hp_307
              have tt_313 := hp_308
              have tt_314 : (I_301 391 this).toInt ≤ 300 := by have z := hg_304.1.1 391 this; exact z.2
              have hG := GM.tr hG hg_304 (by decide)
              have tt_315 : (I_301 396 this).toInt = (I_278 396 this).toInt := by rw [hg_304.2.1 396 (by decide) (by decide)]
              have tt_316 : (I_301 398 this).toInt = (I_278 398 this).toInt := by rw [hg_304.2.1 398 (by decide) (by decide)]
              have tt_317 : (I_301 401 this).toInt = (I_278 401 this).toInt := by rw [hg_304.2.1 401 (by decide) (by decide)]
              have tt_318 : (I_301 402 this).toInt = (I_278 402 this).toInt := by rw [hg_304.2.1 402 (by decide) (by decide)]
              have tt_319 : (I_301 397 this).toInt = (I_278 397 this).toInt := by rw [hg_304.2.1 397 (by decide) (by decide)]
              refine lv_aload_n hx hb dX12_beginOne_75 rfl (lv_at hl 0 rfl) ?_
              have hpsW : PSz (I_301 396 this).toInt (I_301 398 this).toInt (I_301 401 this).toInt (I_301 402 this).toInt (I_301 391 this).toInt (I_301 393 this).toInt (ri_279 this_a) (ri_279 this_pile) bb f0 fr ba tb nn K 1 := PSz_one hps (by omega) (x := (1 : Int32)) (fun j hj => hp_284 j (by omega)) (by rw [show (I 396 this).toInt + 250 + 2 * (I 398 this).toInt = (I 396 this).toInt + 250 + 2 * (I 398 this).toInt from by omega]; exact hp_285) (by decide) (by omega) (by omega) (by omega) (by omega) (by omega) (by omega) (by omega) (hp_286 this_pile (tg_ne hT_this_pile hT_this_a (by decide)))
              have htm : tmM (I_301 391 this).toInt (I_301 393 this).toInt < tmM (I 391 this).toInt (I 393 this).toInt := tm_lt (by omega) (by omega) (by omega)
              refine pk_v (va_runV (As := []) (rest := []) ⟨hx, hb, hml, hown, hts⟩ (s_X12_whole l D t σ I_301 J_302 ri_279 rj rq H.size tg hSH hG.1 this hL_this hK_this this_a hR_this_a hL_this_a hK_this_a hN_this_a hT_this_a this_pile hR_this_pile hL_this_pile hK_this_pile hN_this_pile hT_this_pile bb f0 fr ba tb nn K (by assumption)) (cwV 0 hts (tw_V tw_909 tw_910 tw_911 tw_5 tw_912) rfl rfl rfl cv_yX12_whole_0 ⟨Nat.le_of_ble_eq_true rfl, Nat.le_of_ble_eq_true rfl⟩) ⟨pq_blind, pq_recv hK hP hL_this hK_this (by decide) rfl, pq_pre hK hN hP hD⟩ rfl rfl hl.1 rfl (lv_room (Nat.le_of_ble_eq_true rfl)) dX12_beginOne_76 ⟨Nat.le_of_ble_eq_true rfl, Nat.le_of_ble_eq_true rfl⟩) hD hS hA (fun σ1 μ1 H locs hw_321 hP hD hS => ?_)
              obtain ⟨I_322, ri_323, hu_324, hg_325, hp_327, hp_328, hfn_329, hfr_330⟩ := hw_321
              obtain ⟨hu_324a, hu_324b⟩ := Prod.mk.inj hu_324
              rw [hu_324a, hu_324b] at hP hD
              replace hF := hF.trans (bv_n hfn_329)
              replace hFr := fr_tr hFr hfr_330
              have tt_331 := hp_328
              have hG := GM.tr hG hg_325 (by decide)
              have tt_332 : (I_322 396 this).toInt = (I_301 396 this).toInt := by rw [hg_325.2.1 396 (by decide) (by decide)]
              have tt_333 : (I_322 391 this).toInt = (I_301 391 this).toInt := by rw [hg_325.2.1 391 (by decide) (by decide)]
              have tt_334 : (I_322 393 this).toInt = (I_301 393 this).toInt := by rw [hg_325.2.1 393 (by decide) (by decide)]
              have tt_335 : (I_322 397 this).toInt = (I_301 397 this).toInt := by rw [hg_325.2.1 397 (by decide) (by decide)]
              refine lv_iconst (v := 0) hx hb dX12_beginOne_79 (by decide) ?_
              subst hQ
              exact W.iret (v := 0) hx hb hr (fun t1 ht hW => ⟨⟨0, (σ, I_322, J_302, ri_323, rj, rq), rfl, ⟨I_322, J_302, ri_323, rfl, hG, (Or.inr ⟨(by rw [show (I_322 403 this).toInt = 1 from by omega]; exact hp_327), tm_cg htm (by omega) (by omega) rfl rfl⟩), (hF0.symm.trans hF), hFr, (rg_w (rg_k (0 : Int32) 0 rfl) (by decide))⟩, by rw [ht]; exact hP, va_K.moved hW.alike hK, hD⟩, hS.F ht⟩) hS.2.2 dX12_beginOne_80
            · replace hF := hF.trans (if_pos c_262)
              have tc_336 : (I 393 this).toInt = 1 := congrArg Int32.toInt c_262
              have h_337 : rg (I 393 this) 1 1 := rg_and (rg_full _) (rg_of_eq c_262 (rg_k (1 : Int32) 1 rfl)) (by decide)
              have uh_337 := h_337.1
              have vh_337 := h_337.2
              refine lv_aload_n hx hb dX12_beginOne_57 rfl (lv_at hl 0 rfl) ?_
              refine pg_f (v := .int (I 394 this)) (C := RX12) (T := TX12) (N := 31) hx hb hts (tw_i inlX12) hown hK hP hL_this hK_this (by decide) rfl 10 (by decide) (hts _ (tw_c tw_836)) rfl dX12_beginOne_58 ?_
              replace hF := hF.trans (ap_n (vI_e (f := 394) hO_this (by decide)))
              refine lv_goto (tgt := 68) hx hb dX12_beginOne_61 (by decide) ?_
              have hq1 := PSz_t hps
              have hq2 := PSz_w hps (Or.inl (by omega))
              refine pk_v (va_runV (As := [.int 1, .int (I 394 this)]) (rest := []) ⟨hx, hb, hml, hown, hts⟩ (s_X12_emit l D t σ I J ri rj rq H.size tg hSH hG.1 this (1 : Int32) (I 394 this) hL_this hK_this this_a hR_this_a hL_this_a hK_this_a hN_this_a hT_this_a (by omega) (by omega)) (cwV 2 hts (tw_V tw_905 tw_906 tw_907 tw_5 tw_908) rfl rfl rfl cv_yX12_emit_2 ⟨Nat.le_of_ble_eq_true rfl, Nat.le_of_ble_eq_true rfl⟩) ⟨pq_blind, pq_recv hK hP hL_this hK_this (by decide) rfl, pq_pre hK hN hP hD⟩ rfl rfl hl.1 rfl (lv_room (Nat.le_of_ble_eq_true rfl)) dX12_beginOne_68 ⟨Nat.le_of_ble_eq_true rfl, Nat.le_of_ble_eq_true rfl⟩) hD hS hA (fun σ1 μ1 H locs hw_340 hP hD hS => ?_)
              obtain ⟨I_341, ri_342, hu_343, hg_344, hp_346, hp_347, hp_348, hp_349, hfn_350, hfr_351⟩ := hw_340
              obtain ⟨hu_343a, hu_343b⟩ := Prod.mk.inj hu_343
              rw [hu_343a, hu_343b] at hP hD
              replace hF := hF.trans (bv_n hfn_350)
              replace hFr := fr_tr hFr hfr_351
              obtain ⟨v_352, ev_352, hv_352⟩ := hp_346
              have tt_353 : (I_341 398 this).toInt = (I 398 this).toInt + 1 := by rw [ev_352, pq_us]; exact hv_352
              have tt_354 : (I_341 403 this).toInt = (I 403 this).toInt := by rw [ev_352, pq_uf _ _ _ (by decide)]
              have hG := GM.tr hG hg_344 (by decide)
              have tt_355 : (I_341 396 this).toInt = (I 396 this).toInt := by rw [hg_344.2.1 396 (by decide) (by decide)]
              have tt_356 : (I_341 401 this).toInt = (I 401 this).toInt := by rw [hg_344.2.1 401 (by decide) (by decide)]
              have tt_357 : (I_341 402 this).toInt = (I 402 this).toInt := by rw [hg_344.2.1 402 (by decide) (by decide)]
              have tt_358 : (I_341 391 this).toInt = (I 391 this).toInt := by rw [hg_344.2.1 391 (by decide) (by decide)]
              have tt_359 : (I_341 393 this).toInt = (I 393 this).toInt := by rw [hg_344.2.1 393 (by decide) (by decide)]
              have tt_360 : (I_341 397 this).toInt = (I 397 this).toInt := by rw [hg_344.2.1 397 (by decide) (by decide)]
              refine lv_aload_n hx hb dX12_beginOne_71 rfl (lv_at hl 0 rfl) ?_
              obtain ⟨w_361, hR_w_361, hL_w_361, hK_w_361, hN_w_361, hT_w_361⟩ := sh_a hSH 387 (ci := 12) (kd := 13) (len := 300) rfl (by decide) hL_this hK_this
              have hO_w_361 : w_361 = vrow σ 387 this := vo_k (c := 12) hO_this hR_w_361
              refine pk_v (va_runV (As := []) (rest := []) ⟨hx, hb, hml, hown, hts⟩ (s_X12_nextToken_x l D t σ I_341 J ri_342 rj rq H.size tg hSH hG.1 this hL_this hK_this w_361 hR_w_361 hL_w_361 hK_w_361 hN_w_361 hT_w_361) (cwV 0 hts (tw_V tw_832 tw_833 tw_834 tw_5 tw_835) rfl rfl rfl cv_yX12_nextToken_0 ⟨Nat.le_of_ble_eq_true rfl, Nat.le_of_ble_eq_true rfl⟩) ⟨pq_blind, pq_recv hK hP hL_this hK_this (by decide) rfl, pq_pre hK hN hP hD⟩ rfl rfl hl.1 rfl (lv_room (Nat.le_of_ble_eq_true rfl)) dX12_beginOne_72 ⟨Nat.le_of_ble_eq_true rfl, Nat.le_of_ble_eq_true rfl⟩) hD hS hA (fun σ1 μ1 H locs hw_363 hP hD hS => ?_)
              obtain ⟨I_364, J_365, hu_366, hg_367, hp_369, hp_370, hp_371, hfn_372, hfr_373⟩ := hw_363
              obtain ⟨hu_366a, hu_366b⟩ := Prod.mk.inj hu_366
              rw [hu_366a, hu_366b] at hP hD
              replace hF := hF.trans (bv_n hfn_372)
              replace hFr := fr_tr hFr hfr_373
              have tt_374 := hp_369
              have tt_375 := hp_370
              have tt_376 := hp_371
              have tt_377 : (I_364 391 this).toInt ≤ 300 := by have z := hg_367.1.1 391 this; exact z.2
              have hG := GM.tr hG hg_367 (by decide)
              have tt_378 : (I_364 396 this).toInt = (I_341 396 this).toInt := by rw [hg_367.2.1 396 (by decide) (by decide)]
              have tt_379 : (I_364 398 this).toInt = (I_341 398 this).toInt := by rw [hg_367.2.1 398 (by decide) (by decide)]
              have tt_380 : (I_364 401 this).toInt = (I_341 401 this).toInt := by rw [hg_367.2.1 401 (by decide) (by decide)]
              have tt_381 : (I_364 402 this).toInt = (I_341 402 this).toInt := by rw [hg_367.2.1 402 (by decide) (by decide)]
              have tt_382 : (I_364 397 this).toInt = (I_341 397 this).toInt := by rw [hg_367.2.1 397 (by decide) (by decide)]
              refine lv_aload_n hx hb dX12_beginOne_75 rfl (lv_at hl 0 rfl) ?_
              have hpsW : PSz (I_364 396 this).toInt (I_364 398 this).toInt (I_364 401 this).toInt (I_364 402 this).toInt (I_364 391 this).toInt (I_364 393 this).toInt (ri_342 this_a) (ri_342 this_pile) bb f0 fr ba tb nn K 1 := PSz_one hps (by omega) (x := (1 : Int32)) (fun j hj => hp_347 j (by omega)) (by rw [show (I 396 this).toInt + 250 + 2 * (I 398 this).toInt = (I 396 this).toInt + 250 + 2 * (I 398 this).toInt from by omega]; exact hp_348) (by decide) (by omega) (by omega) (by omega) (by omega) (by omega) (by omega) (by omega) (hp_349 this_pile (tg_ne hT_this_pile hT_this_a (by decide)))
              have htm : tmM (I_364 391 this).toInt (I_364 393 this).toInt < tmM (I 391 this).toInt (I 393 this).toInt := tm_lt (by omega) (by omega) (by omega)
              refine pk_v (va_runV (As := []) (rest := []) ⟨hx, hb, hml, hown, hts⟩ (s_X12_whole l D t σ I_364 J_365 ri_342 rj rq H.size tg hSH hG.1 this hL_this hK_this this_a hR_this_a hL_this_a hK_this_a hN_this_a hT_this_a this_pile hR_this_pile hL_this_pile hK_this_pile hN_this_pile hT_this_pile bb f0 fr ba tb nn K (by assumption)) (cwV 0 hts (tw_V tw_909 tw_910 tw_911 tw_5 tw_912) rfl rfl rfl cv_yX12_whole_0 ⟨Nat.le_of_ble_eq_true rfl, Nat.le_of_ble_eq_true rfl⟩) ⟨pq_blind, pq_recv hK hP hL_this hK_this (by decide) rfl, pq_pre hK hN hP hD⟩ rfl rfl hl.1 rfl (lv_room (Nat.le_of_ble_eq_true rfl)) dX12_beginOne_76 ⟨Nat.le_of_ble_eq_true rfl, Nat.le_of_ble_eq_true rfl⟩) hD hS hA (fun σ1 μ1 H locs hw_384 hP hD hS => ?_)
              obtain ⟨I_385, ri_386, hu_387, hg_388, hp_390, hp_391, hfn_392, hfr_393⟩ := hw_384
              obtain ⟨hu_387a, hu_387b⟩ := Prod.mk.inj hu_387
              rw [hu_387a, hu_387b] at hP hD
              replace hF := hF.trans (bv_n hfn_392)
              replace hFr := fr_tr hFr hfr_393
              have tt_394 := hp_391
              have hG := GM.tr hG hg_388 (by decide)
              have tt_395 : (I_385 396 this).toInt = (I_364 396 this).toInt := by rw [hg_388.2.1 396 (by decide) (by decide)]
              have tt_396 : (I_385 391 this).toInt = (I_364 391 this).toInt := by rw [hg_388.2.1 391 (by decide) (by decide)]
              have tt_397 : (I_385 393 this).toInt = (I_364 393 this).toInt := by rw [hg_388.2.1 393 (by decide) (by decide)]
              have tt_398 : (I_385 397 this).toInt = (I_364 397 this).toInt := by rw [hg_388.2.1 397 (by decide) (by decide)]
              refine lv_iconst (v := 0) hx hb dX12_beginOne_79 (by decide) ?_
              subst hQ
              exact W.iret (v := 0) hx hb hr (fun t1 ht hW => ⟨⟨0, (σ, I_385, J_365, ri_386, rj, rq), rfl, ⟨I_385, J_365, ri_386, rfl, hG, (Or.inr ⟨(by rw [show (I_385 403 this).toInt = 1 from by omega]; exact hp_390), tm_cg htm (by omega) (by omega) rfl rfl⟩), (hF0.symm.trans hF), hFr, (rg_w (rg_k (0 : Int32) 0 rfl) (by decide))⟩, by rw [ht]; exact hP, va_K.moved hW.alike hK, hD⟩, hS.F ht⟩) hS.2.2 dX12_beginOne_80
          · replace hF := hF.trans (if_pos c_257)
            have tc_399 : (I 393 this).toInt = 1 := congrArg Int32.toInt c_257
            have h_400 : rg (I 393 this) 1 1 := rg_and (rg_full _) (rg_of_eq c_257 (rg_k (1 : Int32) 1 rfl)) (by decide)
            have uh_400 := h_400.1
            have vh_400 := h_400.2
            refine lv_iconst (v := 0) hx hb dX12_beginOne_44 (by decide) ?_
            refine lv_goto (tgt := 49) hx hb dX12_beginOne_45 (by decide) ?_
            refine lv_aload_n hx hb dX12_beginOne_49 rfl (lv_at hl 0 rfl) ?_
            refine pg_f (v := .int (I 393 this)) (C := RX12) (T := TX12) (N := 31) hx hb hts (tw_i inlX12) hown hK hP hL_this hK_this (by decide) rfl 9 (by decide) (hts _ (tw_c tw_831)) rfl dX12_beginOne_50 ?_
            refine lv_iconst (v := 1) hx hb dX12_beginOne_53 (by decide) ?_
            refine lv_icmp_ne (tgt := 64) hx hb dX12_beginOne_54 (by decide) (fun c_401 => ?_) (fun c_401 => ?_)
            · have tc_404 : (I 393 this).toInt ≠ 1 := fun q => c_401 (Int32.toInt_inj.mp q)
              exact (rg_empty (rg_ne c_401 h_400 1 rfl (lo := 2) (hi := 0) (by decide)) (by decide)).elim
            · have tc_405 : (I 393 this).toInt = 1 := congrArg Int32.toInt c_401
              refine lv_aload_n hx hb dX12_beginOne_57 rfl (lv_at hl 0 rfl) ?_
              refine pg_f (v := .int (I 394 this)) (C := RX12) (T := TX12) (N := 31) hx hb hts (tw_i inlX12) hown hK hP hL_this hK_this (by decide) rfl 10 (by decide) (hts _ (tw_c tw_836)) rfl dX12_beginOne_58 ?_
              replace hF := hF.trans (ap_n (vI_e (f := 394) hO_this (by decide)))
              refine lv_goto (tgt := 68) hx hb dX12_beginOne_61 (by decide) ?_
              have hq1 := PSz_t hps
              have hq2 := PSz_w hps (Or.inl (by omega))
              refine pk_v (va_runV (As := [.int 0, .int (I 394 this)]) (rest := []) ⟨hx, hb, hml, hown, hts⟩ (s_X12_emit l D t σ I J ri rj rq H.size tg hSH hG.1 this (0 : Int32) (I 394 this) hL_this hK_this this_a hR_this_a hL_this_a hK_this_a hN_this_a hT_this_a (by omega) (by omega)) (cwV 2 hts (tw_V tw_905 tw_906 tw_907 tw_5 tw_908) rfl rfl rfl cv_yX12_emit_2 ⟨Nat.le_of_ble_eq_true rfl, Nat.le_of_ble_eq_true rfl⟩) ⟨pq_blind, pq_recv hK hP hL_this hK_this (by decide) rfl, pq_pre hK hN hP hD⟩ rfl rfl hl.1 rfl (lv_room (Nat.le_of_ble_eq_true rfl)) dX12_beginOne_68 ⟨Nat.le_of_ble_eq_true rfl, Nat.le_of_ble_eq_true rfl⟩) hD hS hA (fun σ1 μ1 H locs hw_408 hP hD hS => ?_)
              obtain ⟨I_409, ri_410, hu_411, hg_412, hp_414, hp_415, hp_416, hp_417, hfn_418, hfr_419⟩ := hw_408
              obtain ⟨hu_411a, hu_411b⟩ := Prod.mk.inj hu_411
              rw [hu_411a, hu_411b] at hP hD
              replace hF := hF.trans (bv_n hfn_418)
              replace hFr := fr_tr hFr hfr_419
              obtain ⟨v_420, ev_420, hv_420⟩ := hp_414
              have tt_421 : (I_409 398 this).toInt = (I 398 this).toInt + 1 := by rw [ev_420, pq_us]; exact hv_420
              have tt_422 : (I_409 403 this).toInt = (I 403 this).toInt := by rw [ev_420, pq_uf _ _ _ (by decide)]
              have hG := GM.tr hG hg_412 (by decide)
              have tt_423 : (I_409 396 this).toInt = (I 396 this).toInt := by rw [hg_412.2.1 396 (by decide) (by decide)]
              have tt_424 : (I_409 401 this).toInt = (I 401 this).toInt := by rw [hg_412.2.1 401 (by decide) (by decide)]
              have tt_425 : (I_409 402 this).toInt = (I 402 this).toInt := by rw [hg_412.2.1 402 (by decide) (by decide)]
              have tt_426 : (I_409 391 this).toInt = (I 391 this).toInt := by rw [hg_412.2.1 391 (by decide) (by decide)]
              have tt_427 : (I_409 393 this).toInt = (I 393 this).toInt := by rw [hg_412.2.1 393 (by decide) (by decide)]
              have tt_428 : (I_409 397 this).toInt = (I 397 this).toInt := by rw [hg_412.2.1 397 (by decide) (by decide)]
              refine lv_aload_n hx hb dX12_beginOne_71 rfl (lv_at hl 0 rfl) ?_
              obtain ⟨w_429, hR_w_429, hL_w_429, hK_w_429, hN_w_429, hT_w_429⟩ := sh_a hSH 387 (ci := 12) (kd := 13) (len := 300) rfl (by decide) hL_this hK_this
              have hO_w_429 : w_429 = vrow σ 387 this := vo_k (c := 12) hO_this hR_w_429
              refine pk_v (va_runV (As := []) (rest := []) ⟨hx, hb, hml, hown, hts⟩ (s_X12_nextToken_x l D t σ I_409 J ri_410 rj rq H.size tg hSH hG.1 this hL_this hK_this w_429 hR_w_429 hL_w_429 hK_w_429 hN_w_429 hT_w_429) (cwV 0 hts (tw_V tw_832 tw_833 tw_834 tw_5 tw_835) rfl rfl rfl cv_yX12_nextToken_0 ⟨Nat.le_of_ble_eq_true rfl, Nat.le_of_ble_eq_true rfl⟩) ⟨pq_blind, pq_recv hK hP hL_this hK_this (by decide) rfl, pq_pre hK hN hP hD⟩ rfl rfl hl.1 rfl (lv_room (Nat.le_of_ble_eq_true rfl)) dX12_beginOne_72 ⟨Nat.le_of_ble_eq_true rfl, Nat.le_of_ble_eq_true rfl⟩) hD hS hA (fun σ1 μ1 H locs hw_431 hP hD hS => ?_)
              obtain ⟨I_432, J_433, hu_434, hg_435, hp_437, hp_438, hp_439, hfn_440, hfr_441⟩ := hw_431
              obtain ⟨hu_434a, hu_434b⟩ := Prod.mk.inj hu_434
              rw [hu_434a, hu_434b] at hP hD
              replace hF := hF.trans (bv_n hfn_440)
              replace hFr := fr_tr hFr hfr_441
              have tt_442 := hp_437
              have tt_443 := hp_438
              have tt_444 := hp_439
              have tt_445 : (I_432 391 this).toInt ≤ 300 := by have z := hg_435.1.1 391 this; exact z.2
              have hG := GM.tr hG hg_435 (by decide)
              have tt_446 : (I_432 396 this).toInt = (I_409 396 this).toInt := by rw [hg_435.2.1 396 (by decide) (by decide)]
              have tt_447 : (I_432 398 this).toInt = (I_409 398 this).toInt := by rw [hg_435.2.1 398 (by decide) (by decide)]
              have tt_448 : (I_432 401 this).toInt = (I_409 401 this).toInt := by rw [hg_435.2.1 401 (by decide) (by decide)]
              have tt_449 : (I_432 402 this).toInt = (I_409 402 this).toInt := by rw [hg_435.2.1 402 (by decide) (by decide)]
              have tt_450 : (I_432 397 this).toInt = (I_409 397 this).toInt := by rw [hg_435.2.1 397 (by decide) (by decide)]
              refine lv_aload_n hx hb dX12_beginOne_75 rfl (lv_at hl 0 rfl) ?_
              have hpsW : PSz (I_432 396 this).toInt (I_432 398 this).toInt (I_432 401 this).toInt (I_432 402 this).toInt (I_432 391 this).toInt (I_432 393 this).toInt (ri_410 this_a) (ri_410 this_pile) bb f0 fr ba tb nn K 1 := PSz_one hps (by omega) (x := (0 : Int32)) (fun j hj => hp_415 j (by omega)) (by rw [show (I 396 this).toInt + 250 + 2 * (I 398 this).toInt = (I 396 this).toInt + 250 + 2 * (I 398 this).toInt from by omega]; exact hp_416) (by decide) (by omega) (by omega) (by omega) (by omega) (by omega) (by omega) (by omega) (hp_417 this_pile (tg_ne hT_this_pile hT_this_a (by decide)))
              have htm : tmM (I_432 391 this).toInt (I_432 393 this).toInt < tmM (I 391 this).toInt (I 393 this).toInt := tm_lt (by omega) (by omega) (by omega)
              refine pk_v (va_runV (As := []) (rest := []) ⟨hx, hb, hml, hown, hts⟩ (s_X12_whole l D t σ I_432 J_433 ri_410 rj rq H.size tg hSH hG.1 this hL_this hK_this this_a hR_this_a hL_this_a hK_this_a hN_this_a hT_this_a this_pile hR_this_pile hL_this_pile hK_this_pile hN_this_pile hT_this_pile bb f0 fr ba tb nn K (by assumption)) (cwV 0 hts (tw_V tw_909 tw_910 tw_911 tw_5 tw_912) rfl rfl rfl cv_yX12_whole_0 ⟨Nat.le_of_ble_eq_true rfl, Nat.le_of_ble_eq_true rfl⟩) ⟨pq_blind, pq_recv hK hP hL_this hK_this (by decide) rfl, pq_pre hK hN hP hD⟩ rfl rfl hl.1 rfl (lv_room (Nat.le_of_ble_eq_true rfl)) dX12_beginOne_76 ⟨Nat.le_of_ble_eq_true rfl, Nat.le_of_ble_eq_true rfl⟩) hD hS hA (fun σ1 μ1 H locs hw_452 hP hD hS => ?_)
              obtain ⟨I_453, ri_454, hu_455, hg_456, hp_458, hp_459, hfn_460, hfr_461⟩ := hw_452
              obtain ⟨hu_455a, hu_455b⟩ := Prod.mk.inj hu_455
              rw [hu_455a, hu_455b] at hP hD
              replace hF := hF.trans (bv_n hfn_460)
              replace hFr := fr_tr hFr hfr_461
              have tt_462 := hp_459
              have hG := GM.tr hG hg_456 (by decide)
              have tt_463 : (I_453 396 this).toInt = (I_432 396 this).toInt := by rw [hg_456.2.1 396 (by decide) (by decide)]
              have tt_464 : (I_453 391 this).toInt = (I_432 391 this).toInt := by rw [hg_456.2.1 391 (by decide) (by decide)]
              have tt_465 : (I_453 393 this).toInt = (I_432 393 this).toInt := by rw [hg_456.2.1 393 (by decide) (by decide)]
              have tt_466 : (I_453 397 this).toInt = (I_432 397 this).toInt := by rw [hg_456.2.1 397 (by decide) (by decide)]
              refine lv_iconst (v := 0) hx hb dX12_beginOne_79 (by decide) ?_
              subst hQ
              exact W.iret (v := 0) hx hb hr (fun t1 ht hW => ⟨⟨0, (σ, I_453, J_433, ri_454, rj, rq), rfl, ⟨I_453, J_433, ri_454, rfl, hG, (Or.inr ⟨(by rw [show (I_453 403 this).toInt = 1 from by omega]; exact hp_458), tm_cg htm (by omega) (by omega) rfl rfl⟩), (hF0.symm.trans hF), hFr, (rg_w (rg_k (0 : Int32) 0 rfl) (by decide))⟩, by rw [ht]; exact hP, va_K.moved hW.alike hK, hD⟩, hS.F ht⟩) hS.2.2 dX12_beginOne_80
    · replace hF := hF.trans (if_pos c_2)
      have tc_467 : (I 393 this).toInt = 1 := congrArg Int32.toInt c_2
      have h_468 : rg (I 393 this) 1 1 := rg_and (rg_full _) (rg_of_eq c_2 (rg_k (1 : Int32) 1 rfl)) (by decide)
      have uh_468 := h_468.1
      have vh_468 := h_468.2
      refine lv_aload_n hx hb dX12_beginOne_8 rfl (lv_at hl 0 rfl) ?_
      refine pg_f (v := .int (I 394 this)) (C := RX12) (T := TX12) (N := 31) hx hb hts (tw_i inlX12) hown hK hP hL_this hK_this (by decide) rfl 10 (by decide) (hts _ (tw_c tw_836)) rfl dX12_beginOne_9 ?_
      replace hF := hF.trans (ap_n (vI_e (f := 394) hO_this (by decide)))
      refine lv_sipush (v := 9999) hx hb dX12_beginOne_12 (by decide) ?_
      refine lv_icmp_le (tgt := 20) hx hb dX12_beginOne_15 (by decide) (fun c_470 => ?_) (fun c_470 => ?_)
      · replace hF := hF.trans (if_pos c_470)
        have tc_475 : (I 394 this).toInt ≤ 9999 := Int32.le_iff_toInt_le.mp c_470
        have h_476 : rg (I 394 this) (-2147483648) 9999 := rg_le1 c_470 (rg_full _) (rg_k (9999 : Int32) 9999 rfl) (by decide)
        have uh_476 := h_476.1
        have vh_476 := h_476.2
        refine lv_aload_n hx hb dX12_beginOne_20 rfl (lv_at hl 0 rfl) ?_
        refine pg_f (v := .int (I 393 this)) (C := RX12) (T := TX12) (N := 31) hx hb hts (tw_i inlX12) hown hK hP hL_this hK_this (by decide) rfl 9 (by decide) (hts _ (tw_c tw_831)) rfl dX12_beginOne_21 ?_
        refine lv_iconst (v := 1) hx hb dX12_beginOne_24 (by decide) ?_
        refine lv_icmp_eq (tgt := 35) hx hb dX12_beginOne_25 (by decide) (fun c_477 => ?_) (fun c_477 => ?_)
        · have tc_480 : (I 393 this).toInt = 1 := congrArg Int32.toInt c_477
          refine lv_aload_n hx hb dX12_beginOne_35 rfl (lv_at hl 0 rfl) ?_
          refine lv_aload_n hx hb dX12_beginOne_36 rfl (lv_at hl 0 rfl) ?_
          refine pg_f (v := .int (I 393 this)) (C := RX12) (T := TX12) (N := 31) hx hb hts (tw_i inlX12) hown hK hP hL_this hK_this (by decide) rfl 9 (by decide) (hts _ (tw_c tw_831)) rfl dX12_beginOne_37 ?_
          refine lv_iconst (v := 1) hx hb dX12_beginOne_40 (by decide) ?_
          refine lv_icmp_ne (tgt := 48) hx hb dX12_beginOne_41 (by decide) (fun c_481 => ?_) (fun c_481 => ?_)
          · have tc_484 : (I 393 this).toInt ≠ 1 := fun q => c_481 (Int32.toInt_inj.mp q)
            exact (rg_empty (rg_ne c_481 h_468 1 rfl (lo := 2) (hi := 0) (by decide)) (by decide)).elim
          · have tc_485 : (I 393 this).toInt = 1 := congrArg Int32.toInt c_481
            refine lv_iconst (v := 0) hx hb dX12_beginOne_44 (by decide) ?_
            refine lv_goto (tgt := 49) hx hb dX12_beginOne_45 (by decide) ?_
            refine lv_aload_n hx hb dX12_beginOne_49 rfl (lv_at hl 0 rfl) ?_
            refine pg_f (v := .int (I 393 this)) (C := RX12) (T := TX12) (N := 31) hx hb hts (tw_i inlX12) hown hK hP hL_this hK_this (by decide) rfl 9 (by decide) (hts _ (tw_c tw_831)) rfl dX12_beginOne_50 ?_
            refine lv_iconst (v := 1) hx hb dX12_beginOne_53 (by decide) ?_
            refine lv_icmp_ne (tgt := 64) hx hb dX12_beginOne_54 (by decide) (fun c_486 => ?_) (fun c_486 => ?_)
            · have tc_489 : (I 393 this).toInt ≠ 1 := fun q => c_486 (Int32.toInt_inj.mp q)
              exact (rg_empty (rg_ne c_486 h_468 1 rfl (lo := 2) (hi := 0) (by decide)) (by decide)).elim
            · have tc_490 : (I 393 this).toInt = 1 := congrArg Int32.toInt c_486
              refine lv_aload_n hx hb dX12_beginOne_57 rfl (lv_at hl 0 rfl) ?_
              refine pg_f (v := .int (I 394 this)) (C := RX12) (T := TX12) (N := 31) hx hb hts (tw_i inlX12) hown hK hP hL_this hK_this (by decide) rfl 10 (by decide) (hts _ (tw_c tw_836)) rfl dX12_beginOne_58 ?_
              refine lv_goto (tgt := 68) hx hb dX12_beginOne_61 (by decide) ?_
              have hq1 := PSz_t hps
              have hq2 := PSz_w hps (Or.inl (by omega))
              refine pk_v (va_runV (As := [.int 0, .int (I 394 this)]) (rest := []) ⟨hx, hb, hml, hown, hts⟩ (s_X12_emit l D t σ I J ri rj rq H.size tg hSH hG.1 this (0 : Int32) (I 394 this) hL_this hK_this this_a hR_this_a hL_this_a hK_this_a hN_this_a hT_this_a (by omega) (by omega)) (cwV 2 hts (tw_V tw_905 tw_906 tw_907 tw_5 tw_908) rfl rfl rfl cv_yX12_emit_2 ⟨Nat.le_of_ble_eq_true rfl, Nat.le_of_ble_eq_true rfl⟩) ⟨pq_blind, pq_recv hK hP hL_this hK_this (by decide) rfl, pq_pre hK hN hP hD⟩ rfl rfl hl.1 rfl (lv_room (Nat.le_of_ble_eq_true rfl)) dX12_beginOne_68 ⟨Nat.le_of_ble_eq_true rfl, Nat.le_of_ble_eq_true rfl⟩) hD hS hA (fun σ1 μ1 H locs hw_492 hP hD hS => ?_)
              obtain ⟨I_493, ri_494, hu_495, hg_496, hp_498, hp_499, hp_500, hp_501, hfn_502, hfr_503⟩ := hw_492
              obtain ⟨hu_495a, hu_495b⟩ := Prod.mk.inj hu_495
              rw [hu_495a, hu_495b] at hP hD
              replace hF := hF.trans (bv_n hfn_502)
              replace hFr := fr_tr hFr hfr_503
              obtain ⟨v_504, ev_504, hv_504⟩ := hp_498
              have tt_505 : (I_493 398 this).toInt = (I 398 this).toInt + 1 := by rw [ev_504, pq_us]; exact hv_504
              have tt_506 : (I_493 403 this).toInt = (I 403 this).toInt := by rw [ev_504, pq_uf _ _ _ (by decide)]
              have hG := GM.tr hG hg_496 (by decide)
              have tt_507 : (I_493 396 this).toInt = (I 396 this).toInt := by rw [hg_496.2.1 396 (by decide) (by decide)]
              have tt_508 : (I_493 401 this).toInt = (I 401 this).toInt := by rw [hg_496.2.1 401 (by decide) (by decide)]
              have tt_509 : (I_493 402 this).toInt = (I 402 this).toInt := by rw [hg_496.2.1 402 (by decide) (by decide)]
              have tt_510 : (I_493 391 this).toInt = (I 391 this).toInt := by rw [hg_496.2.1 391 (by decide) (by decide)]
              have tt_511 : (I_493 393 this).toInt = (I 393 this).toInt := by rw [hg_496.2.1 393 (by decide) (by decide)]
              have tt_512 : (I_493 397 this).toInt = (I 397 this).toInt := by rw [hg_496.2.1 397 (by decide) (by decide)]
              refine lv_aload_n hx hb dX12_beginOne_71 rfl (lv_at hl 0 rfl) ?_
              obtain ⟨w_513, hR_w_513, hL_w_513, hK_w_513, hN_w_513, hT_w_513⟩ := sh_a hSH 387 (ci := 12) (kd := 13) (len := 300) rfl (by decide) hL_this hK_this
              have hO_w_513 : w_513 = vrow σ 387 this := vo_k (c := 12) hO_this hR_w_513
              refine pk_v (va_runV (As := []) (rest := []) ⟨hx, hb, hml, hown, hts⟩ (s_X12_nextToken_x l D t σ I_493 J ri_494 rj rq H.size tg hSH hG.1 this hL_this hK_this w_513 hR_w_513 hL_w_513 hK_w_513 hN_w_513 hT_w_513) (cwV 0 hts (tw_V tw_832 tw_833 tw_834 tw_5 tw_835) rfl rfl rfl cv_yX12_nextToken_0 ⟨Nat.le_of_ble_eq_true rfl, Nat.le_of_ble_eq_true rfl⟩) ⟨pq_blind, pq_recv hK hP hL_this hK_this (by decide) rfl, pq_pre hK hN hP hD⟩ rfl rfl hl.1 rfl (lv_room (Nat.le_of_ble_eq_true rfl)) dX12_beginOne_72 ⟨Nat.le_of_ble_eq_true rfl, Nat.le_of_ble_eq_true rfl⟩) hD hS hA (fun σ1 μ1 H locs hw_515 hP hD hS => ?_)
              obtain ⟨I_516, J_517, hu_518, hg_519, hp_521, hp_522, hp_523, hfn_524, hfr_525⟩ := hw_515
              obtain ⟨hu_518a, hu_518b⟩ := Prod.mk.inj hu_518
              rw [hu_518a, hu_518b] at hP hD
              replace hF := hF.trans (bv_n hfn_524)
              replace hFr := fr_tr hFr hfr_525
              have tt_526 := hp_521
              have tt_527 := hp_522
              have tt_528 := hp_523
              have tt_529 : (I_516 391 this).toInt ≤ 300 := by have z := hg_519.1.1 391 this; exact z.2
              have hG := GM.tr hG hg_519 (by decide)
              have tt_530 : (I_516 396 this).toInt = (I_493 396 this).toInt := by rw [hg_519.2.1 396 (by decide) (by decide)]
              have tt_531 : (I_516 398 this).toInt = (I_493 398 this).toInt := by rw [hg_519.2.1 398 (by decide) (by decide)]
              have tt_532 : (I_516 401 this).toInt = (I_493 401 this).toInt := by rw [hg_519.2.1 401 (by decide) (by decide)]
              have tt_533 : (I_516 402 this).toInt = (I_493 402 this).toInt := by rw [hg_519.2.1 402 (by decide) (by decide)]
              have tt_534 : (I_516 397 this).toInt = (I_493 397 this).toInt := by rw [hg_519.2.1 397 (by decide) (by decide)]
              refine lv_aload_n hx hb dX12_beginOne_75 rfl (lv_at hl 0 rfl) ?_
              have hpsW : PSz (I_516 396 this).toInt (I_516 398 this).toInt (I_516 401 this).toInt (I_516 402 this).toInt (I_516 391 this).toInt (I_516 393 this).toInt (ri_494 this_a) (ri_494 this_pile) bb f0 fr ba tb nn K 1 := PSz_one hps (by omega) (x := (0 : Int32)) (fun j hj => hp_499 j (by omega)) (by rw [show (I 396 this).toInt + 250 + 2 * (I 398 this).toInt = (I 396 this).toInt + 250 + 2 * (I 398 this).toInt from by omega]; exact hp_500) (by decide) (by omega) (by omega) (by omega) (by omega) (by omega) (by omega) (by omega) (hp_501 this_pile (tg_ne hT_this_pile hT_this_a (by decide)))
              have htm : tmM (I_516 391 this).toInt (I_516 393 this).toInt < tmM (I 391 this).toInt (I 393 this).toInt := tm_lt (by omega) (by omega) (by omega)
              refine pk_v (va_runV (As := []) (rest := []) ⟨hx, hb, hml, hown, hts⟩ (s_X12_whole l D t σ I_516 J_517 ri_494 rj rq H.size tg hSH hG.1 this hL_this hK_this this_a hR_this_a hL_this_a hK_this_a hN_this_a hT_this_a this_pile hR_this_pile hL_this_pile hK_this_pile hN_this_pile hT_this_pile bb f0 fr ba tb nn K (by assumption)) (cwV 0 hts (tw_V tw_909 tw_910 tw_911 tw_5 tw_912) rfl rfl rfl cv_yX12_whole_0 ⟨Nat.le_of_ble_eq_true rfl, Nat.le_of_ble_eq_true rfl⟩) ⟨pq_blind, pq_recv hK hP hL_this hK_this (by decide) rfl, pq_pre hK hN hP hD⟩ rfl rfl hl.1 rfl (lv_room (Nat.le_of_ble_eq_true rfl)) dX12_beginOne_76 ⟨Nat.le_of_ble_eq_true rfl, Nat.le_of_ble_eq_true rfl⟩) hD hS hA (fun σ1 μ1 H locs hw_536 hP hD hS => ?_)
              obtain ⟨I_537, ri_538, hu_539, hg_540, hp_542, hp_543, hfn_544, hfr_545⟩ := hw_536
              obtain ⟨hu_539a, hu_539b⟩ := Prod.mk.inj hu_539
              rw [hu_539a, hu_539b] at hP hD
              replace hF := hF.trans (bv_n hfn_544)
              replace hFr := fr_tr hFr hfr_545
              have tt_546 := hp_543
              have hG := GM.tr hG hg_540 (by decide)
              have tt_547 : (I_537 396 this).toInt = (I_516 396 this).toInt := by rw [hg_540.2.1 396 (by decide) (by decide)]
              have tt_548 : (I_537 391 this).toInt = (I_516 391 this).toInt := by rw [hg_540.2.1 391 (by decide) (by decide)]
              have tt_549 : (I_537 393 this).toInt = (I_516 393 this).toInt := by rw [hg_540.2.1 393 (by decide) (by decide)]
              have tt_550 : (I_537 397 this).toInt = (I_516 397 this).toInt := by rw [hg_540.2.1 397 (by decide) (by decide)]
              refine lv_iconst (v := 0) hx hb dX12_beginOne_79 (by decide) ?_
              subst hQ
              exact W.iret (v := 0) hx hb hr (fun t1 ht hW => ⟨⟨0, (σ, I_537, J_517, ri_538, rj, rq), rfl, ⟨I_537, J_517, ri_538, rfl, hG, (Or.inr ⟨(by rw [show (I_537 403 this).toInt = 1 from by omega]; exact hp_542), tm_cg htm (by omega) (by omega) rfl rfl⟩), (hF0.symm.trans hF), hFr, (rg_w (rg_k (0 : Int32) 0 rfl) (by decide))⟩, by rw [ht]; exact hP, va_K.moved hW.alike hK, hD⟩, hS.F ht⟩) hS.2.2 dX12_beginOne_80
        · have tc_551 : (I 393 this).toInt ≠ 1 := fun q => c_477 (Int32.toInt_inj.mp q)
          exact (rg_empty (rg_ne c_477 h_468 1 rfl (lo := 2) (hi := 0) (by decide)) (by decide)).elim
      · replace hF := hF.trans (if_neg c_470)
        have tc_552 : 9999 < (I 394 this).toInt := Int32.lt_iff_toInt_lt.mp (nle c_470)
        have h_553 : rg (I 394 this) 10000 2147483647 := rg_lt2 (nle c_470) (rg_k (9999 : Int32) 9999 rfl) (rg_full _) (by decide)
        have uh_553 := h_553.1
        have vh_553 := h_553.2
        refine lv_iconst (v := 2) hx hb dX12_beginOne_18 (by decide) ?_
        subst hQ
        exact W.iret (v := 2) hx hb hr (fun t1 ht hW => ⟨⟨2, (σ, I, J, ri, rj, rq), rfl, ⟨I, J, ri, rfl, hG, (Or.inl (by decide)), (hF0.symm.trans hF), hFr, (rg_w (rg_k (2 : Int32) 2 rfl) (by decide))⟩, by rw [ht]; exact hP, va_K.moved hW.alike hK, hD⟩, hS.F ht⟩) hS.2.2 dX12_beginOne_19
  exact go _ _ _ hP hD hS hl
