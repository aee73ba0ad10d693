theorem dX12_either_0 : decode cX12_either 0 = .ok (.iconst 0, 1) := oc_3 (by decide +kernel)
theorem dX12_either_1 : decode cX12_either 1 = .ok (.istore_n 1, 1) := oc_60 (by decide +kernel)
theorem dX12_either_2 : decode cX12_either 2 = .ok (.iconst 0, 1) := oc_3 (by decide +kernel)
theorem dX12_either_3 : decode cX12_either 3 = .ok (.istore_n 2, 1) := oc_61 (by decide +kernel)
theorem dX12_either_4 : decode cX12_either 4 = .ok (.iconst 1, 1) := oc_4 (by decide +kernel)
theorem dX12_either_5 : decode cX12_either 5 = .ok (.istore_n 3, 1) := oc_62 (by decide +kernel)
theorem dX12_either_6 : decode cX12_either 6 = .ok (.iload_n 3, 1) := oc_29 (by decide +kernel)
theorem dX12_either_7 : decode cX12_either 7 = .ok (.ifCond .eq 112, 3) := oc_153 (a := 0) (b := 112) (by decide +kernel)
theorem dX12_either_119 : decode cX12_either 119 = .ok (.iconst 0, 1) := oc_3 (by decide +kernel)
theorem dX12_either_120 : decode cX12_either 120 = .ok (.ireturn, 1) := oc_172 (by decide +kernel)
theorem dX12_either_10 : decode cX12_either 10 = .ok (.aload_n 0, 1) := oc_42 (by decide +kernel)
theorem tw_875 : Cond.methodLink RX12 231 yX12_ask ∈ wsL_law := sg_37 _ (List.mem_of_getElem? (i := 11) rfl)
theorem tw_876 : Cond.instanceMethod yX12_ask ∈ wsL_law := sg_37 _ (List.mem_of_getElem? (i := 12) rfl)
theorem tw_877 : Cond.selects RX12 yX12_ask yX12_ask ∈ wsL_law := sg_37 _ (List.mem_of_getElem? (i := 13) rfl)
theorem tw_878 : Cond.code yX12_ask cX12_ask 5 (some .int) ∈ wsL_law := sg_37 _ (List.mem_of_getElem? (i := 14) rfl)
theorem dX12_either_11 : decode cX12_either 11 = .ok (.invokevirtual 231, 3) := oc_182 (a := 0) (b := 231) (by decide +kernel)
theorem dX12_either_14 : decode cX12_either 14 = .ok (.istore 4, 2) := oc_54 (by decide +kernel)
theorem dX12_either_16 : decode cX12_either 16 = .ok (.iload 4, 2) := oc_21 (by decide +kernel)
theorem dX12_either_18 : decode cX12_either 18 = .ok (.ifCond .eq 6, 3) := oc_153 (a := 0) (b := 6) (by decide +kernel)
theorem dX12_either_24 : decode cX12_either 24 = .ok (.iload_n 1, 1) := oc_27 (by decide +kernel)
theorem dX12_either_25 : decode cX12_either 25 = .ok (.ifCond .eq 10, 3) := oc_153 (a := 0) (b := 10) (by decide +kernel)
theorem dX12_either_35 : decode cX12_either 35 = .ok (.aload_n 0, 1) := oc_42 (by decide +kernel)
theorem dX12_either_36 : decode cX12_either 36 = .ok (.bipush 97, 2) := oc_16 (a := 97) (by decide +kernel)
theorem dX12_either_38 : decode cX12_either 38 = .ok (.bipush 110, 2) := oc_16 (a := 110) (by decide +kernel)
theorem dX12_either_40 : decode cX12_either 40 = .ok (.bipush 100, 2) := oc_16 (a := 100) (by decide +kernel)
theorem dX12_either_42 : decode cX12_either 42 = .ok (.invokestatic 160, 3) := oc_184 (a := 0) (b := 160) (by decide +kernel)
theorem dX12_either_45 : decode cX12_either 45 = .ok (.invokevirtual 221, 3) := oc_182 (a := 0) (b := 221) (by decide +kernel)
theorem dX12_either_48 : decode cX12_either 48 = .ok (.istore_n 1, 1) := oc_60 (by decide +kernel)
theorem dX12_either_49 : decode cX12_either 49 = .ok (.aload_n 0, 1) := oc_42 (by decide +kernel)
theorem dX12_either_50 : decode cX12_either 50 = .ok (.getfield 143, 3) := oc_180 (a := 0) (b := 143) (by decide +kernel)
theorem dX12_either_53 : decode cX12_either 53 = .ok (.iconst 2, 1) := oc_5 (by decide +kernel)
theorem dX12_either_54 : decode cX12_either 54 = .ok (.if_icmp .ne 18, 3) := oc_160 (a := 0) (b := 18) (by decide +kernel)
theorem dX12_either_72 : decode cX12_either 72 = .ok (.iconst 0, 1) := oc_3 (by decide +kernel)
theorem dX12_either_73 : decode cX12_either 73 = .ok (.istore 5, 2) := oc_54 (by decide +kernel)
theorem dX12_either_75 : decode cX12_either 75 = .ok (.iload_n 1, 1) := oc_27 (by decide +kernel)
theorem dX12_either_76 : decode cX12_either 76 = .ok (.ifCond .ne 17, 3) := oc_154 (a := 0) (b := 17) (by decide +kernel)
theorem dX12_either_93 : decode cX12_either 93 = .ok (.iload_n 1, 1) := oc_27 (by decide +kernel)
theorem dX12_either_94 : decode cX12_either 94 = .ok (.ifCond .ne 8, 3) := oc_154 (a := 0) (b := 8) (by decide +kernel)
theorem dX12_either_102 : decode cX12_either 102 = .ok (.iconst 1, 1) := oc_4 (by decide +kernel)
theorem dX12_either_103 : decode cX12_either 103 = .ok (.goto 4, 3) := oc_167 (a := 0) (b := 4) (by decide +kernel)
theorem dX12_either_107 : decode cX12_either 107 = .ok (.istore_n 3, 1) := oc_62 (by decide +kernel)
theorem dX12_either_108 : decode cX12_either 108 = .ok (.iload_n 3, 1) := oc_29 (by decide +kernel)
theorem dX12_either_109 : decode cX12_either 109 = .ok (.ifCond .eq 7, 3) := oc_153 (a := 0) (b := 7) (by decide +kernel)
theorem dX12_either_112 : decode cX12_either 112 = .ok (.aload_n 0, 1) := oc_42 (by decide +kernel)
theorem dX12_either_113 : decode cX12_either 113 = .ok (.invokevirtual 196, 3) := oc_182 (a := 0) (b := 196) (by decide +kernel)
theorem dX12_either_116 : decode cX12_either 116 = .ok (.goto (-110), 3) := oc_167 (a := 255) (b := 146) (by decide +kernel)
theorem dX12_either_79 : decode cX12_either 79 = .ok (.iload_n 2, 1) := oc_28 (by decide +kernel)
theorem dX12_either_80 : decode cX12_either 80 = .ok (.ifCond .eq 10, 3) := oc_153 (a := 0) (b := 10) (by decide +kernel)
theorem dX12_either_90 : decode cX12_either 90 = .ok (.iload 5, 2) := oc_21 (by decide +kernel)
theorem dX12_either_92 : decode cX12_either 92 = .ok (.istore_n 2, 1) := oc_61 (by decide +kernel)
theorem dX12_either_97 : decode cX12_either 97 = .ok (.iload 5, 2) := oc_21 (by decide +kernel)
theorem dX12_either_99 : decode cX12_either 99 = .ok (.ifCond .eq 7, 3) := oc_153 (a := 0) (b := 7) (by decide +kernel)
theorem dX12_either_106 : decode cX12_either 106 = .ok (.iconst 0, 1) := oc_3 (by decide +kernel)
theorem dX12_either_83 : decode cX12_either 83 = .ok (.aload_n 0, 1) := oc_42 (by decide +kernel)
theorem dX12_either_84 : decode cX12_either 84 = .ok (.bipush 22, 2) := oc_16 (a := 22) (by decide +kernel)
theorem dX12_either_86 : decode cX12_either 86 = .ok (.iconst 0, 1) := oc_3 (by decide +kernel)
theorem dX12_either_87 : decode cX12_either 87 = .ok (.invokevirtual 188, 3) := oc_182 (a := 0) (b := 188) (by decide +kernel)
theorem dX12_either_57 : decode cX12_either 57 = .ok (.aload_n 0, 1) := oc_42 (by decide +kernel)
theorem dX12_either_58 : decode cX12_either 58 = .ok (.getfield 156, 3) := oc_180 (a := 0) (b := 156) (by decide +kernel)
theorem tw_874 : Cond.constantLong RX12 234 (28530) ∈ wsL_law := sg_37 _ (List.mem_of_getElem? (i := 10) rfl)
theorem dX12_either_61 : decode cX12_either 61 = .ok (.ldc2_w 234, 3) := oc_20 (a := 0) (b := 234) (by decide +kernel)
theorem dX12_either_64 : decode cX12_either 64 = .ok (.lcmp, 1) := oc_148 (by decide +kernel)
theorem dX12_either_65 : decode cX12_either 65 = .ok (.ifCond .ne 7, 3) := oc_154 (a := 0) (b := 7) (by decide +kernel)
theorem dX12_either_68 : decode cX12_either 68 = .ok (.iconst 1, 1) := oc_4 (by decide +kernel)
theorem dX12_either_69 : decode cX12_either 69 = .ok (.goto 4, 3) := oc_167 (a := 0) (b := 4) (by decide +kernel)
theorem dX12_either_28 : decode cX12_either 28 = .ok (.aload_n 0, 1) := oc_42 (by decide +kernel)
theorem dX12_either_29 : decode cX12_either 29 = .ok (.bipush 21, 2) := oc_16 (a := 21) (by decide +kernel)
theorem dX12_either_31 : decode cX12_either 31 = .ok (.iconst 0, 1) := oc_3 (by decide +kernel)
theorem dX12_either_32 : decode cX12_either 32 = .ok (.invokevirtual 188, 3) := oc_182 (a := 0) (b := 188) (by decide +kernel)
theorem dX12_either_21 : decode cX12_either 21 = .ok (.iload 4, 2) := oc_21 (by decide +kernel)
theorem dX12_either_23 : decode cX12_either 23 = .ok (.ireturn, 1) := oc_172 (by decide +kernel)
set_option maxRecDepth 100000 in
def g_X12_either_L6 (rj : Nat → Nat → Int64) (rq : Nat → Nat → Option Nat) : Nat → (Int32) → (Int32) → (Int32) → (Nat → Int32) → (Nat → Int64) → (Nat → Nat → Int32) → Int32 × vM
  | 0, x_1949, x_1950, x_1951, I_1952, J_1953, ri_1954 => ((0 : Int32), I_1952, J_1953, ri_1954, rj, rq)
  | n_2607 + 1, x_1949, x_1950, x_1951, I_1952, J_1953, ri_1954 => (if x_1951 = (0 : Int32) then ((0 : Int32), I_1952, J_1953, ri_1954, rj, rq) else (bnI (g_X12_ask I_1952 J_1953 ri_1954 rj rq) fun (x_2629 : Int32) (I_2631 : Nat → Int32) (J_2632 : Nat → Int64) (ri_2633 : Nat → Nat → Int32) (_ : Nat → Nat → Int64) (_ : Nat → Nat → Option Nat) => (if x_2629 = (0 : Int32) then (if x_1949 = (0 : Int32) then (ap1 (g_X12_w3_x (97 : Int32) (110 : Int32) (100 : Int32)) fun (x_2656 : Int64) => (bnI (g_X12_isWord_x x_2656 I_2631 J_2632 ri_2633 rj rq) fun (x_2663 : Int32) (_ : Nat → Int32) (_ : Nat → Int64) (_ : Nat → Nat → Int32) (_ : Nat → Nat → Int64) (_ : Nat → Nat → Option Nat) => (ap1 (I_2631 393) fun (y_2671 : Int32) => (if (y_2671) = (2 : Int32) then (ap1 (J_2632 395) fun (y_2777 : Int64) => (ap1 (lg_cmp (y_2777) (28530 : Int64)) fun (x_2778 : Int32) => (if x_2778 = (0 : Int32) then (if x_2663 = (0 : Int32) then (if x_1950 = (0 : Int32) then (bnV (g_X12_nextToken_x I_2631 J_2632 ri_2633 rj rq) fun (I_2950 : Nat → Int32) (J_2951 : Nat → Int64) (_ : Nat → Nat → Int32) (_ : Nat → Nat → Int64) (_ : Nat → Nat → Option Nat) => ((g_X12_either_L6 rj rq n_2607) x_2663 (1 : Int32) (1 : Int32) I_2950 J_2951 ri_2633)) else (bnV (g_X12_emit (22 : Int32) (0 : Int32) I_2631 J_2632 ri_2633 rj rq) fun (I_2973 : Nat → Int32) (_ : Nat → Int64) (ri_2974 : Nat → Nat → Int32) (_ : Nat → Nat → Int64) (_ : Nat → Nat → Option Nat) => (bnV (g_X12_nextToken_x I_2973 J_2632 ri_2974 rj rq) fun (I_3007 : Nat → Int32) (J_3008 : Nat → Int64) (_ : Nat → Nat → Int32) (_ : Nat → Nat → Int64) (_ : Nat → Nat → Option Nat) => ((g_X12_either_L6 rj rq n_2607) x_2663 (1 : Int32) (1 : Int32) I_3007 J_3008 ri_2974)))) else (bnV (g_X12_nextToken_x I_2631 J_2632 ri_2633 rj rq) fun (I_2905 : Nat → Int32) (J_2906 : Nat → Int64) (_ : Nat → Nat → Int32) (_ : Nat → Nat → Int64) (_ : Nat → Nat → Option Nat) => ((g_X12_either_L6 rj rq n_2607) x_2663 x_1950 (1 : Int32) I_2905 J_2906 ri_2633))) else (if x_2663 = (0 : Int32) then (if x_1950 = (0 : Int32) then ((g_X12_either_L6 rj rq n_2607) x_2663 (0 : Int32) (0 : Int32) I_2631 J_2632 ri_2633) else (bnV (g_X12_emit (22 : Int32) (0 : Int32) I_2631 J_2632 ri_2633 rj rq) fun (I_2851 : Nat → Int32) (_ : Nat → Int64) (ri_2852 : Nat → Nat → Int32) (_ : Nat → Nat → Int64) (_ : Nat → Nat → Option Nat) => ((g_X12_either_L6 rj rq n_2607) x_2663 (0 : Int32) (0 : Int32) I_2851 J_2632 ri_2852))) else (bnV (g_X12_nextToken_x I_2631 J_2632 ri_2633 rj rq) fun (I_2805 : Nat → Int32) (J_2806 : Nat → Int64) (_ : Nat → Nat → Int32) (_ : Nat → Nat → Int64) (_ : Nat → Nat → Option Nat) => ((g_X12_either_L6 rj rq n_2607) x_2663 x_1950 (1 : Int32) I_2805 J_2806 ri_2633)))))) else (if x_2663 = (0 : Int32) then (if x_1950 = (0 : Int32) then ((g_X12_either_L6 rj rq n_2607) x_2663 (0 : Int32) (0 : Int32) I_2631 J_2632 ri_2633) else (bnV (g_X12_emit (22 : Int32) (0 : Int32) I_2631 J_2632 ri_2633 rj rq) fun (I_2744 : Nat → Int32) (_ : Nat → Int64) (ri_2745 : Nat → Nat → Int32) (_ : Nat → Nat → Int64) (_ : Nat → Nat → Option Nat) => ((g_X12_either_L6 rj rq n_2607) x_2663 (0 : Int32) (0 : Int32) I_2744 J_2632 ri_2745))) else (bnV (g_X12_nextToken_x I_2631 J_2632 ri_2633 rj rq) fun (I_2698 : Nat → Int32) (J_2699 : Nat → Int64) (_ : Nat → Nat → Int32) (_ : Nat → Nat → Int64) (_ : Nat → Nat → Option Nat) => ((g_X12_either_L6 rj rq n_2607) x_2663 x_1950 (1 : Int32) I_2698 J_2699 ri_2633))))))) else (bnV (g_X12_emit (21 : Int32) (0 : Int32) I_2631 J_2632 ri_2633 rj rq) fun (I_3030 : Nat → Int32) (_ : Nat → Int64) (ri_3031 : Nat → Nat → Int32) (_ : Nat → Nat → Int64) (_ : Nat → Nat → Option Nat) => (ap1 (g_X12_w3_x (97 : Int32) (110 : Int32) (100 : Int32)) fun (x_3050 : Int64) => (bnI (g_X12_isWord_x x_3050 I_3030 J_2632 ri_3031 rj rq) fun (x_3057 : Int32) (_ : Nat → Int32) (_ : Nat → Int64) (_ : Nat → Nat → Int32) (_ : Nat → Nat → Int64) (_ : Nat → Nat → Option Nat) => (ap1 (I_3030 393) fun (y_3065 : Int32) => (if (y_3065) = (2 : Int32) then (ap1 (J_2632 395) fun (y_3171 : Int64) => (ap1 (lg_cmp (y_3171) (28530 : Int64)) fun (x_3172 : Int32) => (if x_3172 = (0 : Int32) then (if x_3057 = (0 : Int32) then (if x_1950 = (0 : Int32) then (bnV (g_X12_nextToken_x I_3030 J_2632 ri_3031 rj rq) fun (I_3344 : Nat → Int32) (J_3345 : Nat → Int64) (_ : Nat → Nat → Int32) (_ : Nat → Nat → Int64) (_ : Nat → Nat → Option Nat) => ((g_X12_either_L6 rj rq n_2607) x_3057 (1 : Int32) (1 : Int32) I_3344 J_3345 ri_3031)) else (bnV (g_X12_emit (22 : Int32) (0 : Int32) I_3030 J_2632 ri_3031 rj rq) fun (I_3367 : Nat → Int32) (_ : Nat → Int64) (ri_3368 : Nat → Nat → Int32) (_ : Nat → Nat → Int64) (_ : Nat → Nat → Option Nat) => (bnV (g_X12_nextToken_x I_3367 J_2632 ri_3368 rj rq) fun (I_3401 : Nat → Int32) (J_3402 : Nat → Int64) (_ : Nat → Nat → Int32) (_ : Nat → Nat → Int64) (_ : Nat → Nat → Option Nat) => ((g_X12_either_L6 rj rq n_2607) x_3057 (1 : Int32) (1 : Int32) I_3401 J_3402 ri_3368)))) else (bnV (g_X12_nextToken_x I_3030 J_2632 ri_3031 rj rq) fun (I_3299 : Nat → Int32) (J_3300 : Nat → Int64) (_ : Nat → Nat → Int32) (_ : Nat → Nat → Int64) (_ : Nat → Nat → Option Nat) => ((g_X12_either_L6 rj rq n_2607) x_3057 x_1950 (1 : Int32) I_3299 J_3300 ri_3031))) else (if x_3057 = (0 : Int32) then (if x_1950 = (0 : Int32) then ((g_X12_either_L6 rj rq n_2607) x_3057 (0 : Int32) (0 : Int32) I_3030 J_2632 ri_3031) else (bnV (g_X12_emit (22 : Int32) (0 : Int32) I_3030 J_2632 ri_3031 rj rq) fun (I_3245 : Nat → Int32) (_ : Nat → Int64) (ri_3246 : Nat → Nat → Int32) (_ : Nat → Nat → Int64) (_ : Nat → Nat → Option Nat) => ((g_X12_either_L6 rj rq n_2607) x_3057 (0 : Int32) (0 : Int32) I_3245 J_2632 ri_3246))) else (bnV (g_X12_nextToken_x I_3030 J_2632 ri_3031 rj rq) fun (I_3199 : Nat → Int32) (J_3200 : Nat → Int64) (_ : Nat → Nat → Int32) (_ : Nat → Nat → Int64) (_ : Nat → Nat → Option Nat) => ((g_X12_either_L6 rj rq n_2607) x_3057 x_1950 (1 : Int32) I_3199 J_3200 ri_3031)))))) else (if x_3057 = (0 : Int32) then (if x_1950 = (0 : Int32) then ((g_X12_either_L6 rj rq n_2607) x_3057 (0 : Int32) (0 : Int32) I_3030 J_2632 ri_3031) else (bnV (g_X12_emit (22 : Int32) (0 : Int32) I_3030 J_2632 ri_3031 rj rq) fun (I_3138 : Nat → Int32) (_ : Nat → Int64) (ri_3139 : Nat → Nat → Int32) (_ : Nat → Nat → Int64) (_ : Nat → Nat → Option Nat) => ((g_X12_either_L6 rj rq n_2607) x_3057 (0 : Int32) (0 : Int32) I_3138 J_2632 ri_3139))) else (bnV (g_X12_nextToken_x I_3030 J_2632 ri_3031 rj rq) fun (I_3092 : Nat → Int32) (J_3093 : Nat → Int64) (_ : Nat → Nat → Int32) (_ : Nat → Nat → Int64) (_ : Nat → Nat → Option Nat) => ((g_X12_either_L6 rj rq n_2607) x_3057 x_1950 (1 : Int32) I_3092 J_3093 ri_3031))))))))) else (x_2629, I_2631, J_2632, ri_2633, rj, rq))))
set_option maxRecDepth 100000 in
theorem g_X12_either_L6_e {rj : Nat → Nat → Int64} {rq : Nat → Nat → Option Nat} {n_2607 : Nat} {x_1949 : Int32} {x_1950 : Int32} {x_1951 : Int32} {I_1952 : Nat → Int32} {J_1953 : Nat → Int64} {ri_1954 : Nat → Nat → Int32} : g_X12_either_L6 rj rq (n_2607 + 1) x_1949 x_1950 x_1951 I_1952 J_1953 ri_1954 = (if x_1951 = (0 : Int32) then ((0 : Int32), I_1952, J_1953, ri_1954, rj, rq) else (bnI (g_X12_ask I_1952 J_1953 ri_1954 rj rq) fun (x_2629 : Int32) (I_2631 : Nat → Int32) (J_2632 : Nat → Int64) (ri_2633 : Nat → Nat → Int32) (_ : Nat → Nat → Int64) (_ : Nat → Nat → Option Nat) => (if x_2629 = (0 : Int32) then (if x_1949 = (0 : Int32) then (ap1 (g_X12_w3_x (97 : Int32) (110 : Int32) (100 : Int32)) fun (x_2656 : Int64) => (bnI (g_X12_isWord_x x_2656 I_2631 J_2632 ri_2633 rj rq) fun (x_2663 : Int32) (_ : Nat → Int32) (_ : Nat → Int64) (_ : Nat → Nat → Int32) (_ : Nat → Nat → Int64) (_ : Nat → Nat → Option Nat) => (ap1 (I_2631 393) fun (y_2671 : Int32) => (if (y_2671) = (2 : Int32) then (ap1 (J_2632 395) fun (y_2777 : Int64) => (ap1 (lg_cmp (y_2777) (28530 : Int64)) fun (x_2778 : Int32) => (if x_2778 = (0 : Int32) then (if x_2663 = (0 : Int32) then (if x_1950 = (0 : Int32) then (bnV (g_X12_nextToken_x I_2631 J_2632 ri_2633 rj rq) fun (I_2950 : Nat → Int32) (J_2951 : Nat → Int64) (_ : Nat → Nat → Int32) (_ : Nat → Nat → Int64) (_ : Nat → Nat → Option Nat) => ((g_X12_either_L6 rj rq n_2607) x_2663 (1 : Int32) (1 : Int32) I_2950 J_2951 ri_2633)) else (bnV (g_X12_emit (22 : Int32) (0 : Int32) I_2631 J_2632 ri_2633 rj rq) fun (I_2973 : Nat → Int32) (_ : Nat → Int64) (ri_2974 : Nat → Nat → Int32) (_ : Nat → Nat → Int64) (_ : Nat → Nat → Option Nat) => (bnV (g_X12_nextToken_x I_2973 J_2632 ri_2974 rj rq) fun (I_3007 : Nat → Int32) (J_3008 : Nat → Int64) (_ : Nat → Nat → Int32) (_ : Nat → Nat → Int64) (_ : Nat → Nat → Option Nat) => ((g_X12_either_L6 rj rq n_2607) x_2663 (1 : Int32) (1 : Int32) I_3007 J_3008 ri_2974)))) else (bnV (g_X12_nextToken_x I_2631 J_2632 ri_2633 rj rq) fun (I_2905 : Nat → Int32) (J_2906 : Nat → Int64) (_ : Nat → Nat → Int32) (_ : Nat → Nat → Int64) (_ : Nat → Nat → Option Nat) => ((g_X12_either_L6 rj rq n_2607) x_2663 x_1950 (1 : Int32) I_2905 J_2906 ri_2633))) else (if x_2663 = (0 : Int32) then (if x_1950 = (0 : Int32) then ((g_X12_either_L6 rj rq n_2607) x_2663 (0 : Int32) (0 : Int32) I_2631 J_2632 ri_2633) else (bnV (g_X12_emit (22 : Int32) (0 : Int32) I_2631 J_2632 ri_2633 rj rq) fun (I_2851 : Nat → Int32) (_ : Nat → Int64) (ri_2852 : Nat → Nat → Int32) (_ : Nat → Nat → Int64) (_ : Nat → Nat → Option Nat) => ((g_X12_either_L6 rj rq n_2607) x_2663 (0 : Int32) (0 : Int32) I_2851 J_2632 ri_2852))) else (bnV (g_X12_nextToken_x I_2631 J_2632 ri_2633 rj rq) fun (I_2805 : Nat → Int32) (J_2806 : Nat → Int64) (_ : Nat → Nat → Int32) (_ : Nat → Nat → Int64) (_ : Nat → Nat → Option Nat) => ((g_X12_either_L6 rj rq n_2607) x_2663 x_1950 (1 : Int32) I_2805 J_2806 ri_2633)))))) else (if x_2663 = (0 : Int32) then (if x_1950 = (0 : Int32) then ((g_X12_either_L6 rj rq n_2607) x_2663 (0 : Int32) (0 : Int32) I_2631 J_2632 ri_2633) else (bnV (g_X12_emit (22 : Int32) (0 : Int32) I_2631 J_2632 ri_2633 rj rq) fun (I_2744 : Nat → Int32) (_ : Nat → Int64) (ri_2745 : Nat → Nat → Int32) (_ : Nat → Nat → Int64) (_ : Nat → Nat → Option Nat) => ((g_X12_either_L6 rj rq n_2607) x_2663 (0 : Int32) (0 : Int32) I_2744 J_2632 ri_2745))) else (bnV (g_X12_nextToken_x I_2631 J_2632 ri_2633 rj rq) fun (I_2698 : Nat → Int32) (J_2699 : Nat → Int64) (_ : Nat → Nat → Int32) (_ : Nat → Nat → Int64) (_ : Nat → Nat → Option Nat) => ((g_X12_either_L6 rj rq n_2607) x_2663 x_1950 (1 : Int32) I_2698 J_2699 ri_2633))))))) else (bnV (g_X12_emit (21 : Int32) (0 : Int32) I_2631 J_2632 ri_2633 rj rq) fun (I_3030 : Nat → Int32) (_ : Nat → Int64) (ri_3031 : Nat → Nat → Int32) (_ : Nat → Nat → Int64) (_ : Nat → Nat → Option Nat) => (ap1 (g_X12_w3_x (97 : Int32) (110 : Int32) (100 : Int32)) fun (x_3050 : Int64) => (bnI (g_X12_isWord_x x_3050 I_3030 J_2632 ri_3031 rj rq) fun (x_3057 : Int32) (_ : Nat → Int32) (_ : Nat → Int64) (_ : Nat → Nat → Int32) (_ : Nat → Nat → Int64) (_ : Nat → Nat → Option Nat) => (ap1 (I_3030 393) fun (y_3065 : Int32) => (if (y_3065) = (2 : Int32) then (ap1 (J_2632 395) fun (y_3171 : Int64) => (ap1 (lg_cmp (y_3171) (28530 : Int64)) fun (x_3172 : Int32) => (if x_3172 = (0 : Int32) then (if x_3057 = (0 : Int32) then (if x_1950 = (0 : Int32) then (bnV (g_X12_nextToken_x I_3030 J_2632 ri_3031 rj rq) fun (I_3344 : Nat → Int32) (J_3345 : Nat → Int64) (_ : Nat → Nat → Int32) (_ : Nat → Nat → Int64) (_ : Nat → Nat → Option Nat) => ((g_X12_either_L6 rj rq n_2607) x_3057 (1 : Int32) (1 : Int32) I_3344 J_3345 ri_3031)) else (bnV (g_X12_emit (22 : Int32) (0 : Int32) I_3030 J_2632 ri_3031 rj rq) fun (I_3367 : Nat → Int32) (_ : Nat → Int64) (ri_3368 : Nat → Nat → Int32) (_ : Nat → Nat → Int64) (_ : Nat → Nat → Option Nat) => (bnV (g_X12_nextToken_x I_3367 J_2632 ri_3368 rj rq) fun (I_3401 : Nat → Int32) (J_3402 : Nat → Int64) (_ : Nat → Nat → Int32) (_ : Nat → Nat → Int64) (_ : Nat → Nat → Option Nat) => ((g_X12_either_L6 rj rq n_2607) x_3057 (1 : Int32) (1 : Int32) I_3401 J_3402 ri_3368)))) else (bnV (g_X12_nextToken_x I_3030 J_2632 ri_3031 rj rq) fun (I_3299 : Nat → Int32) (J_3300 : Nat → Int64) (_ : Nat → Nat → Int32) (_ : Nat → Nat → Int64) (_ : Nat → Nat → Option Nat) => ((g_X12_either_L6 rj rq n_2607) x_3057 x_1950 (1 : Int32) I_3299 J_3300 ri_3031))) else (if x_3057 = (0 : Int32) then (if x_1950 = (0 : Int32) then ((g_X12_either_L6 rj rq n_2607) x_3057 (0 : Int32) (0 : Int32) I_3030 J_2632 ri_3031) else (bnV (g_X12_emit (22 : Int32) (0 : Int32) I_3030 J_2632 ri_3031 rj rq) fun (I_3245 : Nat → Int32) (_ : Nat → Int64) (ri_3246 : Nat → Nat → Int32) (_ : Nat → Nat → Int64) (_ : Nat → Nat → Option Nat) => ((g_X12_either_L6 rj rq n_2607) x_3057 (0 : Int32) (0 : Int32) I_3245 J_2632 ri_3246))) else (bnV (g_X12_nextToken_x I_3030 J_2632 ri_3031 rj rq) fun (I_3199 : Nat → Int32) (J_3200 : Nat → Int64) (_ : Nat → Nat → Int32) (_ : Nat → Nat → Int64) (_ : Nat → Nat → Option Nat) => ((g_X12_either_L6 rj rq n_2607) x_3057 x_1950 (1 : Int32) I_3199 J_3200 ri_3031)))))) else (if x_3057 = (0 : Int32) then (if x_1950 = (0 : Int32) then ((g_X12_either_L6 rj rq n_2607) x_3057 (0 : Int32) (0 : Int32) I_3030 J_2632 ri_3031) else (bnV (g_X12_emit (22 : Int32) (0 : Int32) I_3030 J_2632 ri_3031 rj rq) fun (I_3138 : Nat → Int32) (_ : Nat → Int64) (ri_3139 : Nat → Nat → Int32) (_ : Nat → Nat → Int64) (_ : Nat → Nat → Option Nat) => ((g_X12_either_L6 rj rq n_2607) x_3057 (0 : Int32) (0 : Int32) I_3138 J_2632 ri_3139))) else (bnV (g_X12_nextToken_x I_3030 J_2632 ri_3031 rj rq) fun (I_3092 : Nat → Int32) (J_3093 : Nat → Int64) (_ : Nat → Nat → Int32) (_ : Nat → Nat → Int64) (_ : Nat → Nat → Option Nat) => ((g_X12_either_L6 rj rq n_2607) x_3057 x_1950 (1 : Int32) I_3092 J_3093 ri_3031))))))))) else (x_2629, I_2631, J_2632, ri_2633, rj, rq)))) := rfl
set_option maxRecDepth 100000 in
def g_X12_either (I : Nat → Int32) (J : Nat → Int64) (ri : Nat → Nat → Int32) (rj : Nat → Nat → Int64) (rq : Nat → Nat → Option Nat) : Int32 × vM := (ap1 (I 391) fun (y_3422 : Int32) => (ap1 (I 393) fun (y_3423 : Int32) => (g_X12_either_L6 rj rq ((2 * tmM (y_3422).toInt (y_3423).toInt + ((1 : Int32)).toInt).toNat + 1) (0 : Int32) (0 : Int32) (1 : Int32) I J ri)))
set_option maxRecDepth 100000 in
theorem g_X12_either_e {I : Nat → Int32} {J : Nat → Int64} {ri : Nat → Nat → Int32} {rj : Nat → Nat → Int64} {rq : Nat → Nat → Option Nat} : g_X12_either I J ri rj rq = (ap1 (I 391) fun (y_3422 : Int32) => (ap1 (I 393) fun (y_3423 : Int32) => (g_X12_either_L6 rj rq ((2 * tmM (y_3422).toInt (y_3423).toInt + ((1 : Int32)).toInt).toNat + 1) (0 : Int32) (0 : Int32) (1 : Int32) I J ri))) := rfl
set_option maxHeartbeats 4000000 in
set_option maxRecDepth 100000 in
theorem s_X12_either (l : Launch) (D : va_G) (t : pq_T) (σ : pq_S) (I : Nat → Nat → Int32) (J : Nat → Nat → Int64) (ri : Nat → Nat → Int32) (rj : Nat → Nat → Int64) (rq : Nat → Nat → Option Nat) (sz : Nat) (tg : Nat → Nat) (hSH : SH σ tg) (hG0 : GT tg I ri) (this : Nat) (hL_this : this ∈ σ.1) (hK_this : σ.2.1 this = 12) (this_a : Nat) (hR_this_a : σ.2.2.1 384 this = some this_a) (hL_this_a : this_a ∈ σ.1) (hK_this_a : σ.2.1 this_a = 13) (hN_this_a : σ.2.2.2 this_a = 12720) (hT_this_a : tg this_a = 384) (this_pile : Nat) (hR_this_pile : σ.2.2.1 400 this = some this_pile) (hL_this_pile : this_pile ∈ σ.1) (hK_this_pile : σ.2.1 this_pile = 13) (hN_this_pile : σ.2.2.2 this_pile = 160) (hT_this_pile : tg this_pile = 400) (bb : Nat) (f0 : Nat → Int32) (fr : Int) (va : Int) (tb : Int) (nn : Int) (K : Int) (hpb : PBz (I 396 this).toInt (I 398 this).toInt (I 402 this).toInt (I 391 this).toInt (I 393 this).toInt (ri this_a) bb f0 fr va tb nn K) : MetI l yX12_either (wa yX12_either cX12_either 6 (some .int)) ({ frames := 7, cells := 0, slots := 0, locals := 154 }) [.ref this] D t σ (I, J, ri, rj, rq) sz 0 0 (fun (r : Int32) (u : pq_S × pq_M) => ∃ I' : Nat → Nat → Int32, ∃ J' : Nat → Nat → Int64, ∃ ri' : Nat → Nat → Int32, u = (σ, I', J', ri', rj, rq) ∧ GM [401, 1930, 1931, 398, 391, 392, 393, 402] tg σ I ri I' ri' rq ∧ (r.toInt ≠ 0 ∨ (PBz (I' 396 this).toInt (I' 398 this).toInt (I' 402 this).toInt (I' 391 this).toInt (I' 393 this).toInt (ri' this_a) bb f0 fr va (tb + 1) nn K ∧ tmM (I' 391 this).toInt (I' 393 this).toInt ≤ tmM (I 391 this).toInt (I 393 this).toInt)) ∧ g_X12_either (vI 12 σ this I) (vJ 12 σ this J) (vR 12 σ this ri) (vL 12 σ this rj) (vQ 12 σ this rq) = (r, (vI 12 σ this I'), (vJ 12 σ this J'), (vR 12 σ this ri'), (vL 12 σ this rj), (vQ 12 σ this rq)) ∧ FR 12 tg σ this (I, J, ri, rj, rq) (I', J', ri', rj, rq) ∧ rg r 0 3) := by
  refine Met.ofW (cc := cX12_either) (maxL := 6) (ret := (some .int)) (by decide) rfl ?_
  intro p e s m args below meth c s₁ B hml hv
  obtain ⟨rfl, hsz, hP, hK, hD0, hN⟩ := hv
  have hx := B.exec
  have hb := B.bytes
  have hr := B.returns
  have hts := atoms_spec (ws := (wa yX12_either cX12_either 6 (some .int))) B.pre
  have hown : s.vm.findClass RX12 = some m.cls := findClass_of_methodNamed B.named
  have hlocks := B.notSynchronized
  subst hsz
  have hD : va_D (pq_B t σ (I, J, ri, rj, rq) s.heap.size) (pq_P t σ (I, J, ri, rj, rq)) := hD0.self
  generalize hAe : pq_B t σ (I, J, ri, rj, rq) s.heap.size = A at hD ⊢
  have hA : ∀ q : Nat, s.heap.size ≤ q → A q := fun q h => by rw [← hAe]; exact Or.inr h
  have hS : va_S A s.heap s.heap [] := va_S.rf
  have hG : GM [401, 1930, 1931, 398, 391, 392, 393, 402] tg σ I ri I ri rq := ⟨hG0, fun _ _ _ => rfl, fun _ _ _ _ _ => rfl, fun _ _ _ _ _ _ => rfl⟩
  have hl := lv_entry ([.ref this]) (n := 6) (Nat.le_of_ble_eq_true rfl)
  rw [lg_entry_eq]
  generalize (lg_sl ([.ref this]) ++ List.replicate (6 - (lg_sl ([.ref this])).length) Slot.unset).toArray = ls at hl ⊢
  have hl : lv_has ls 6 [(0, .ref this)] := hl
  refine q_gen (fun Q hQ => ?_)
  have go : ∀ (H : Heap) (locs : List Loc) (ls : Array Slot), va_P D vwCl (pq_P t σ (I, J, ri, rj, rq)) H → va_D A (pq_P t σ (I, J, ri, rj, rq)) → va_S A s.heap H locs → lv_has ls 6 [(0, .ref this)] → W p l e ({ frames := 7, cells := 0, slots := 0, locals := 154 } : Room) s m (List.toArray ([.ref this] : List Value)) below meth c H locs 0 0 Q (F0 m 0 ls []) := by
    intro H locs ls hP hD hS hl
    have hO_this : this = vo σ 12 this := rfl
    have hVT : VT 12 σ tg this := vt_12 hSH hL_this hK_this
    have hFr : FR 12 tg σ this (I, J, ri, rj, rq) (I, J, ri, rj, rq) := fr_rf
    have hO_this_a : this_a = vrow σ 384 this := vo_k (c := 12) hO_this hR_this_a
    have hO_this_pile : this_pile = vrow σ 400 this := vo_k (c := 12) hO_this hR_this_pile
    obtain ⟨F, hF0⟩ : ∃ F, F = g_X12_either (vI 12 σ this I) (vJ 12 σ this J) (vR 12 σ this ri) (vL 12 σ this rj) (vQ 12 σ this rq) := ⟨_, rfl⟩
    have hF := hF0.trans g_X12_either_e
    have hv0 := PBz_tv hpb
    have ho0 := PBz_op hpb
    refine lv_iconst (v := 0) hx hb dX12_either_0 (by decide) ?_
    refine lv_istore_n (lv' := [(1, .int 0), (0, .ref this)]) hx hb dX12_either_1 rfl hl (by decide) rfl (fun ls hl => ?_)
    refine lv_iconst (v := 0) hx hb dX12_either_2 (by decide) ?_
    refine lv_istore_n (lv' := [(2, .int 0), (1, .int 0), (0, .ref this)]) hx hb dX12_either_3 rfl hl (by decide) rfl (fun ls hl => ?_)
    refine lv_iconst (v := 1) hx hb dX12_either_4 (by decide) ?_
    refine lv_istore_n (lv' := [(3, .int 1), (2, .int 0), (1, .int 0), (0, .ref this)]) hx hb dX12_either_5 rfl hl (by decide) rfl (fun ls hl => ?_)
    have L_2608 : ∀ (n_2607 : Nat) (x_1949 : Int32) (x_1950 : Int32) (x_1951 : Int32) (I_1952 : Nat → Nat → Int32) (J_1953 : Nat → Nat → Int64) (ri_1954 : Nat → Nat → Int32) (H : Heap) (locs : List Loc) (ls : Array Slot), rg x_1949 0 1 → rg x_1950 0 1 → rg x_1951 0 1 → (((x_1951).toInt = 1 → PBz (I_1952 396 this).toInt (I_1952 398 this).toInt (I_1952 402 this).toInt (I_1952 391 this).toInt (I_1952 393 this).toInt (ri_1954 this_a) bb f0 fr va (tb + (x_1949).toInt + (x_1950).toInt) nn (K + (x_1949).toInt + (x_1950).toInt)) ∧ ((x_1951).toInt = 0 → PBz (I_1952 396 this).toInt (I_1952 398 this).toInt (I_1952 402 this).toInt (I_1952 391 this).toInt (I_1952 393 this).toInt (ri_1954 this_a) bb f0 fr va (tb + 1) nn K)) → (tmM (I_1952 391 this).toInt (I_1952 393 this).toInt ≤ tmM (I 391 this).toInt (I 393 this).toInt) → (2 * tmM (I_1952 391 this).toInt (I_1952 393 this).toInt + (x_1951).toInt).toNat < n_2607 → F = g_X12_either_L6 (vL 12 σ this rj) (vQ 12 σ this rq) n_2607 x_1949 x_1950 x_1951 (vI 12 σ this I_1952) (vJ 12 σ this J_1953) (vR 12 σ this ri_1954) → FR 12 tg σ this (I, J, ri, rj, rq) (I_1952, J_1953, ri_1954, rj, rq) → GM [401, 1930, 1931, 398, 391, 392, 393, 402] tg σ I ri I_1952 ri_1954 rq → va_P D vwCl (pq_P t σ (I_1952, J_1953, ri_1954, rj, rq)) H → va_D A (pq_P t σ (I_1952, J_1953, ri_1954, rj, rq)) → va_S A s.heap H locs → lv_has ls 6 [(0, .ref this), (1, .int x_1949), (2, .int x_1950), (3, .int x_1951)] → W p l e ({ frames := 7, cells := 0, slots := 0, locals := 154 } : Room) s m (List.toArray ([.ref this] : List Value)) below meth c H locs 0 0 Q (F0 m 6 ls []) := by
      intro n_2607
      induction n_2607 with
      | zero => intro x_1949 x_1950 x_1951 I_1952 J_1953 ri_1954 H locs ls h_2615 h_2616 h_2617 hrel_2618 hrel_2619 hm_2606 hF hFr hG hP hD hS hl; exact absurd hm_2606 (Nat.not_lt_zero _)
      | succ n_2607 ih_2609 =>
        intro x_1949 x_1950 x_1951 I_1952 J_1953 ri_1954 H locs ls h_2615 h_2616 h_2617 hrel_2618 hrel_2619 hm_2606 hF hFr hG hP hD hS hl
        have uh_2615 := h_2615.1
        have vh_2615 := h_2615.2
        have uh_2616 := h_2616.1
        have vh_2616 := h_2616.2
        have uh_2617 := h_2617.1
        have vh_2617 := h_2617.2
        replace hF := hF.trans g_X12_either_L6_e
        refine lv_iload_n hx hb dX12_either_6 rfl (lv_at hl 3 rfl) ?_
        refine lv_if_eq (tgt := 119) hx hb dX12_either_7 (by decide) (fun c_2620 => ?_) (fun c_2620 => ?_)
        · replace hF := hF.trans (if_pos c_2620)
          have tc_2625 : (x_1951).toInt = 0 := congrArg Int32.toInt c_2620
          have h_2626 : rg x_1951 0 0 := rg_and h_2617 (rg_of_eq c_2620 (rg_k (0 : Int32) 0 rfl)) (by decide)
          have uh_2626 := h_2626.1
          have vh_2626 := h_2626.2
          refine lv_iconst (v := 0) hx hb dX12_either_119 (by decide) ?_
          subst hQ
          exact W.iret (v := 0) hx hb hr (fun t1 ht hW => ⟨⟨0, (σ, I_1952, J_1953, ri_1954, rj, rq), rfl, ⟨I_1952, J_1953, ri_1954, rfl, hG, (Or.inr ⟨hrel_2618.2 (by omega), hrel_2619⟩), (hF0.symm.trans hF), hFr, (rg_w (rg_k (0 : Int32) 0 rfl) (by decide))⟩, by rw [ht]; exact hP, va_K.moved hW.alike hK, hD⟩, hS.F ht⟩) hS.2.2 dX12_either_120
        · replace hF := hF.trans (if_neg c_2620)
          have tc_2627 : (x_1951).toInt ≠ 0 := fun q => c_2620 (Int32.toInt_inj.mp q)
          have h_2628 : rg x_1951 1 1 := rg_ne c_2620 h_2617 0 rfl (by decide)
          have uh_2628 := h_2628.1
          have vh_2628 := h_2628.2
          refine lv_aload_n hx hb dX12_either_10 rfl (lv_at hl 0 rfl) ?_
          have hpbA := hrel_2618.1 (by omega)
          refine pk_i (va_runV (As := []) (rest := []) ⟨hx, hb, hml, hown, hts⟩ (s_X12_ask l D t σ I_1952 J_1953 ri_1954 rj rq H.size tg hSH hG.1 this hL_this hK_this this_a hR_this_a hL_this_a hK_this_a hN_this_a hT_this_a this_pile hR_this_pile hL_this_pile hK_this_pile hN_this_pile hT_this_pile bb f0 fr va (tb + (x_1949).toInt + (x_1950).toInt) nn (K + (x_1949).toInt + (x_1950).toInt) (by assumption)) (cwV 0 hts (tw_V tw_875 tw_876 tw_877 tw_5 tw_878) rfl rfl rfl cv_yX12_ask_0 ⟨Nat.le_of_ble_eq_true rfl, Nat.le_of_ble_eq_true rfl⟩) ⟨pq_blind, pq_recv hK hP hL_this hK_this (by decide) rfl, pq_pre hK hN hP hD⟩ rfl rfl hl.1 rfl (lv_room (Nat.le_of_ble_eq_true rfl)) dX12_either_11 ⟨Nat.le_of_ble_eq_true rfl, Nat.le_of_ble_eq_true rfl⟩) hD hS hA (fun x_2629 σ1 μ1 H locs hw_2630 hP hD hS => ?_)
          obtain ⟨I_2631, J_2632, ri_2633, hu_2634, hg_2635, hp_2637, hfn_2638, hfr_2639, hr_2636⟩ := hw_2630
          obtain ⟨hu_2634a, hu_2634b⟩ := Prod.mk.inj hu_2634
          rw [hu_2634a, hu_2634b] at hP hD
          replace hF := hF.trans (bn_n hfn_2638)
          replace hFr := fr_tr hFr hfr_2639
          have hG := GM.tr hG hg_2635 (by decide)
          have tt_2640 : (I_2631 396 this).toInt = (I_1952 396 this).toInt := by rw [hg_2635.2.1 396 (by decide) (by decide)]
          have tt_2641 : (I_2631 397 this).toInt = (I_1952 397 this).toInt := by rw [hg_2635.2.1 397 (by decide) (by decide)]
          refine lv_istore (lv' := [(4, .int x_2629), (0, .ref this), (1, .int x_1949), (2, .int x_1950), (3, .int x_1951)]) hx hb dX12_either_14 hl (by decide) rfl (fun ls hl => ?_)
          refine lv_iload hx hb dX12_either_16 (lv_at hl 0 rfl) ?_
          refine lv_if_eq (tgt := 24) hx hb dX12_either_18 (by decide) (fun c_2642 => ?_) (fun c_2642 => ?_)
          · replace hF := hF.trans (if_pos c_2642)
            have tc_2647 : (x_2629).toInt = 0 := congrArg Int32.toInt c_2642
            have h_2648 : rg x_2629 0 0 := rg_and hr_2636 (rg_of_eq c_2642 (rg_k (0 : Int32) 0 rfl)) (by decide)
            have uh_2648 := h_2648.1
            have vh_2648 := h_2648.2
            have hpbB := (hp_2637.resolve_left (fun q => q (by omega))).1
            have htmA : tmM (I_2631 391 this).toInt (I_2631 393 this).toInt ≤ tmM (I 391 this).toInt (I 393 this).toInt := Int.le_trans (hp_2637.resolve_left (fun q => q (by omega))).2 hrel_2619
            refine lv_iload_n hx hb dX12_either_24 rfl (lv_at hl 2 rfl) ?_
            refine lv_if_eq (tgt := 35) hx hb dX12_either_25 (by decide) (fun c_2649 => ?_) (fun c_2649 => ?_)
            · replace hF := hF.trans (if_pos c_2649)
              have tc_2654 : (x_1949).toInt = 0 := congrArg Int32.toInt c_2649
              have h_2655 : rg x_1949 0 0 := rg_and h_2615 (rg_of_eq c_2649 (rg_k (0 : Int32) 0 rfl)) (by decide)
              have uh_2655 := h_2655.1
              have vh_2655 := h_2655.2
              have hpbC : PBz (I_2631 396 this).toInt (I_2631 398 this).toInt (I_2631 402 this).toInt (I_2631 391 this).toInt (I_2631 393 this).toInt (ri_2633 this_a) bb f0 fr va (tb + (x_1950).toInt + 1) nn (K + (x_1950).toInt) := by rw [show tb + (x_1950).toInt + 1 = (tb + (x_1949).toInt + (x_1950).toInt + 1) from by omega, show K + (x_1950).toInt = (K + (x_1949).toInt + (x_1950).toInt) from by omega]; exact hpbB
              refine lv_aload_n hx hb dX12_either_35 rfl (lv_at hl 1 rfl) ?_
              refine lv_bipush (v := 97) hx hb dX12_either_36 (by decide) ?_
              refine lv_bipush (v := 110) hx hb dX12_either_38 (by decide) ?_
              refine lv_bipush (v := 100) hx hb dX12_either_40 (by decide) ?_
              refine pk_l (va_runS (As := [.int 97, .int 110, .int 100]) (rest := [.ref this]) ⟨hx, hb, hml, hown, hts⟩ (s_X12_w3_x l D t σ I_2631 J_2632 ri_2633 rj rq H.size tg hSH hG.1 (97 : Int32) (110 : Int32) (100 : Int32)) (va_cwS 3 hts (tw_S tw_864 tw_865 tw_5 tw_866) rfl rfl rfl cd_yX12_w3_3 ⟨Nat.le_of_ble_eq_true rfl, Nat.le_of_ble_eq_true rfl⟩) ⟨pq_blind, pq_pre hK hN hP hD⟩ rfl rfl hl.1 rfl (lv_room (Nat.le_of_ble_eq_true rfl)) dX12_either_42 ⟨Nat.le_of_ble_eq_true rfl, Nat.le_of_ble_eq_true rfl⟩) hD hS hA (fun x_2656 σ1 μ1 H locs hw_2657 hP hD hS => ?_)
              obtain ⟨hu_2658, hfn_2661⟩ := hw_2657
              obtain ⟨hu_2658a, hu_2658b⟩ := Prod.mk.inj hu_2658
              rw [hu_2658a, hu_2658b] at hP hD
              replace hF := hF.trans (ap_n hfn_2661.symm)
              refine pk_i (va_runV (As := [.long x_2656]) (rest := []) ⟨hx, hb, hml, hown, hts⟩ (s_X12_isWord_x l D t σ I_2631 J_2632 ri_2633 rj rq H.size tg hSH hG.1 this x_2656 hL_this hK_this) (cwV 1 hts (tw_V tw_879 tw_880 tw_881 tw_5 tw_882) rfl rfl rfl cv_yX12_isWord_1 ⟨Nat.le_of_ble_eq_true rfl, Nat.le_of_ble_eq_true rfl⟩) ⟨pq_blind, pq_recv hK hP hL_this hK_this (by decide) rfl, pq_pre hK hN hP hD⟩ rfl rfl hl.1 rfl (lv_room (Nat.le_of_ble_eq_true rfl)) dX12_either_45 ⟨Nat.le_of_ble_eq_true rfl, Nat.le_of_ble_eq_true rfl⟩) hD hS hA (fun x_2663 σ1 μ1 H locs hw_2664 hP hD hS => ?_)
              obtain ⟨hu_2665, hfn_2668, hr_2667⟩ := hw_2664
              obtain ⟨hu_2665a, hu_2665b⟩ := Prod.mk.inj hu_2665
              rw [hu_2665a, hu_2665b] at hP hD
              replace hF := hF.trans (bn_n hfn_2668)
              have h_2670 : rg x_2663 0 1 := by rcases hr_2667 with ⟨q, -⟩ | ⟨q, -⟩ <;> rw [q] <;> exact ⟨by decide, by decide⟩
              have uh_2670 := h_2670.1
              have vh_2670 := h_2670.2
              refine lv_istore_n (lv' := [(1, .int x_2663), (4, .int x_2629), (0, .ref this), (2, .int x_1950), (3, .int x_1951)]) hx hb dX12_either_48 rfl hl (by decide) rfl (fun ls hl => ?_)
              refine lv_aload_n hx hb dX12_either_49 rfl (lv_at hl 2 rfl) ?_
              refine pg_f (v := .int (I_2631 393 this)) (C := RX12) (T := TX12) (N := 31) hx hb hts (tw_i inlX12) hown hK hP hL_this hK_this (by decide) rfl 9 (by decide) (hts _ (tw_c tw_831)) rfl dX12_either_50 ?_
              replace hF := hF.trans (ap_n (vI_e (f := 393) hO_this (by decide)))
              refine lv_iconst (v := 2) hx hb dX12_either_53 (by decide) ?_
              refine lv_icmp_ne (tgt := 72) hx hb dX12_either_54 (by decide) (fun c_2672 => ?_) (fun c_2672 => ?_)
              · replace hF := hF.trans (if_neg c_2672)
                have tc_2676 : (I_2631 393 this).toInt ≠ 2 := fun q => c_2672 (Int32.toInt_inj.mp q)
                refine lv_iconst (v := 0) hx hb dX12_either_72 (by decide) ?_
                refine lv_istore (lv' := [(5, .int 0), (1, .int x_2663), (4, .int x_2629), (0, .ref this), (2, .int x_1950), (3, .int x_1951)]) hx hb dX12_either_73 hl (by decide) rfl (fun ls hl => ?_)
                refine lv_iload_n hx hb dX12_either_75 rfl (lv_at hl 1 rfl) ?_
                refine lv_if_ne (tgt := 93) hx hb dX12_either_76 (by decide) (fun c_2677 => ?_) (fun c_2677 => ?_)
                · replace hF := hF.trans (if_neg c_2677)
                  have f_2684 := (hr_2667.resolve_right (fun q => c_2677 q.1)).2
                  have tc_2685 : (x_2663).toInt ≠ 0 := fun q => c_2677 (Int32.toInt_inj.mp q)
                  have h_2686 : rg x_2663 1 1 := rg_ne c_2677 h_2670 0 rfl (by decide)
                  have uh_2686 := h_2686.1
                  have vh_2686 := h_2686.2
                  refine lv_iload_n hx hb dX12_either_93 rfl (lv_at hl 1 rfl) ?_
                  refine lv_if_ne (tgt := 102) hx hb dX12_either_94 (by decide) (fun c_2687 => ?_) (fun c_2687 => ?_)
                  · have f_2692 := (hr_2667.resolve_right (fun q => c_2687 q.1)).2
                    have tc_2693 : (x_2663).toInt ≠ 0 := fun q => c_2687 (Int32.toInt_inj.mp q)
                    refine lv_iconst (v := 1) hx hb dX12_either_102 (by decide) ?_
                    refine lv_goto (tgt := 107) hx hb dX12_either_103 (by decide) ?_
                    refine lv_istore_n (lv' := [(3, .int 1), (5, .int 0), (1, .int x_2663), (4, .int x_2629), (0, .ref this), (2, .int x_1950)]) hx hb dX12_either_107 rfl hl (by decide) rfl (fun ls hl => ?_)
                    refine lv_iload_n hx hb dX12_either_108 rfl (lv_at hl 0 rfl) ?_
                    refine lv_if_eq (tgt := 116) hx hb dX12_either_109 (by decide) (fun c_2694 => absurd c_2694 (by decide)) (fun c_2694 => ?_)
                    refine lv_aload_n hx hb dX12_either_112 rfl (lv_at hl 4 rfl) ?_
                    obtain ⟨w_2695, hR_w_2695, hL_w_2695, hK_w_2695, hN_w_2695, hT_w_2695⟩ := sh_a hSH 387 (ci := 12) (kd := 13) (len := 300) rfl (by decide) hL_this hK_this
                    have hO_w_2695 : w_2695 = vrow σ 387 this := vo_k (c := 12) hO_this hR_w_2695
                    refine pk_v (va_runV (As := []) (rest := []) ⟨hx, hb, hml, hown, hts⟩ (s_X12_nextToken_x l D t σ I_2631 J_2632 ri_2633 rj rq H.size tg hSH hG.1 this hL_this hK_this w_2695 hR_w_2695 hL_w_2695 hK_w_2695 hN_w_2695 hT_w_2695) (cwV 0 hts (tw_V tw_832 tw_833 tw_834 tw_5 tw_835) rfl rfl rfl cv_yX12_nextToken_0 ⟨Nat.le_of_ble_eq_true rfl, Nat.le_of_ble_eq_true rfl⟩) ⟨pq_blind, pq_recv hK hP hL_this hK_this (by decide) rfl, pq_pre hK hN hP hD⟩ rfl rfl hl.1 rfl (lv_room (Nat.le_of_ble_eq_true rfl)) dX12_either_113 ⟨Nat.le_of_ble_eq_true rfl, Nat.le_of_ble_eq_true rfl⟩) hD hS hA (fun σ1 μ1 H locs hw_2697 hP hD hS => ?_)
                    obtain ⟨I_2698, J_2699, hu_2700, hg_2701, hp_2703, hp_2704, hp_2705, hfn_2706, hfr_2707⟩ := hw_2697
                    obtain ⟨hu_2700a, hu_2700b⟩ := Prod.mk.inj hu_2700
                    rw [hu_2700a, hu_2700b] at hP hD
                    replace hF := hF.trans (bv_n hfn_2706)
                    replace hFr := fr_tr hFr hfr_2707
                    have tt_2708 := hp_2703
                    have tt_2709 := hp_2704
                    have tt_2710 := hp_2705
                    have tt_2711 : (I_2698 391 this).toInt ≤ 300 := by have z := hg_2701.1.1 391 this; exact z.2
                    have hG := GM.tr hG hg_2701 (by decide)
                    have tt_2712 : (I_2698 396 this).toInt = (I_2631 396 this).toInt := by rw [hg_2701.2.1 396 (by decide) (by decide)]
                    have tt_2713 : (I_2698 398 this).toInt = (I_2631 398 this).toInt := by rw [hg_2701.2.1 398 (by decide) (by decide)]
                    have tt_2714 : (I_2698 401 this).toInt = (I_2631 401 this).toInt := by rw [hg_2701.2.1 401 (by decide) (by decide)]
                    have tt_2715 : (I_2698 402 this).toInt = (I_2631 402 this).toInt := by rw [hg_2701.2.1 402 (by decide) (by decide)]
                    have tt_2716 : (I_2698 397 this).toInt = (I_2631 397 this).toInt := by rw [hg_2701.2.1 397 (by decide) (by decide)]
                    refine lv_goto (tgt := 6) hx hb dX12_either_116 (by decide) ?_
                    exact ih_2609 x_2663 x_1950 (1 : Int32) I_2698 J_2699 ri_2633 _ _ _ (rg_w h_2686 (by decide)) (rg_w h_2616 (by decide)) (rg_w (rg_k (1 : Int32) 1 rfl) (by decide)) (by have zc0 : (0 : Int32).toInt = 0 := rfl; have zc1 : (1 : Int32).toInt = 1 := rfl; exact ⟨fun _ => by rw [show tb + (x_2663).toInt + (x_1950).toInt = (tb + (x_1950).toInt + 1) from by omega, show K + (x_2663).toInt + (x_1950).toInt = (K + (x_1950).toInt) + 1 from by omega]; exact PBz_tok hpbC (by omega) (by omega) (by omega) (by omega) (by omega) (by omega) (by omega) rfl, fun q => absurd q (by decide)⟩) (Int.le_of_lt (Int.lt_of_lt_of_le (tm_lt (by omega) (by omega) (by omega)) htmA)) (by have zc0 : (0 : Int32).toInt = 0 := rfl; have zc1 : (1 : Int32).toInt = 1 := rfl; exact tm_ms2' hm_2606 ⟨Int.le_of_lt (Int.lt_of_lt_of_le (tm_lt (s := (I_2631 391 this).toInt) (k := (I_2631 393 this).toInt) (by omega) (by omega) (by omega)) (tm_lec (hp_2637.resolve_left (fun q => q (by omega))).2 (by omega) (by omega))), Or.inl (Int.lt_of_lt_of_le (tm_lt (s := (I_2631 391 this).toInt) (k := (I_2631 393 this).toInt) (by omega) (by omega) (by omega)) (tm_lec (hp_2637.resolve_left (fun q => q (by omega))).2 (by omega) (by omega)))⟩ (tm_b ((hG.1.1 391 this).2)) (by omega) (by omega)) hF hFr hG hP hD hS (lv_sub hl [4, 2, 5, 0] rfl)
                  · have f_2717 := (hr_2667.resolve_left (fun q => absurd (q.1.symm.trans c_2687) (by decide))).2
                    have tc_2718 : (x_2663).toInt = 0 := congrArg Int32.toInt c_2687
                    exact (rg_empty (rg_and h_2686 (rg_of_eq c_2687 (rg_k (0 : Int32) 0 rfl)) (lo := 1) (hi := 0) (by decide)) (by decide)).elim
                · replace hF := hF.trans (if_pos c_2677)
                  have f_2719 := (hr_2667.resolve_left (fun q => absurd (q.1.symm.trans c_2677) (by decide))).2
                  have tc_2720 : (x_2663).toInt = 0 := congrArg Int32.toInt c_2677
                  have h_2721 : rg x_2663 0 0 := rg_and h_2670 (rg_of_eq c_2677 (rg_k (0 : Int32) 0 rfl)) (by decide)
                  have uh_2721 := h_2721.1
                  have vh_2721 := h_2721.2
                  refine lv_iload_n hx hb dX12_either_79 rfl (lv_at hl 4 rfl) ?_
                  refine lv_if_eq (tgt := 90) hx hb dX12_either_80 (by decide) (fun c_2722 => ?_) (fun c_2722 => ?_)
                  · replace hF := hF.trans (if_pos c_2722)
                    have tc_2727 : (x_1950).toInt = 0 := congrArg Int32.toInt c_2722
                    have h_2728 : rg x_1950 0 0 := rg_and h_2616 (rg_of_eq c_2722 (rg_k (0 : Int32) 0 rfl)) (by decide)
                    have uh_2728 := h_2728.1
                    have vh_2728 := h_2728.2
                    have hpbD : PBz (I_2631 396 this).toInt (I_2631 398 this).toInt (I_2631 402 this).toInt (I_2631 391 this).toInt (I_2631 393 this).toInt (ri_2633 this_a) bb f0 fr va (tb + 1) nn K := by have q := hpbC; rw [show (tb + (x_1950).toInt + 1) = tb + 1 from by omega, show (K + (x_1950).toInt) = K from by omega] at q; exact q
                    refine lv_iload hx hb dX12_either_90 (lv_at hl 0 rfl) ?_
                    refine lv_istore_n (lv' := [(2, .int 0), (5, .int 0), (1, .int x_2663), (4, .int x_2629), (0, .ref this), (3, .int x_1951)]) hx hb dX12_either_92 rfl hl (by decide) rfl (fun ls hl => ?_)
                    refine lv_iload_n hx hb dX12_either_93 rfl (lv_at hl 2 rfl) ?_
                    refine lv_if_ne (tgt := 102) hx hb dX12_either_94 (by decide) (fun c_2729 => ?_) (fun c_2729 => ?_)
                    · have f_2734 := (hr_2667.resolve_right (fun q => c_2729 q.1)).2
                      have tc_2735 : (x_2663).toInt ≠ 0 := fun q => c_2729 (Int32.toInt_inj.mp q)
                      exact (rg_empty (rg_ne c_2729 h_2721 0 rfl (lo := 1) (hi := (-1)) (by decide)) (by decide)).elim
                    · have f_2736 := (hr_2667.resolve_left (fun q => absurd (q.1.symm.trans c_2729) (by decide))).2
                      have tc_2737 : (x_2663).toInt = 0 := congrArg Int32.toInt c_2729
                      refine lv_iload hx hb dX12_either_97 (lv_at hl 1 rfl) ?_
                      refine lv_if_eq (tgt := 106) hx hb dX12_either_99 (by decide) (fun c_2738 => ?_) (fun c_2738 => absurd c_2738 (by decide))
                      refine lv_iconst (v := 0) hx hb dX12_either_106 (by decide) ?_
                      refine lv_istore_n (lv' := [(3, .int 0), (2, .int 0), (5, .int 0), (1, .int x_2663), (4, .int x_2629), (0, .ref this)]) hx hb dX12_either_107 rfl hl (by decide) rfl (fun ls hl => ?_)
                      refine lv_iload_n hx hb dX12_either_108 rfl (lv_at hl 0 rfl) ?_
                      refine lv_if_eq (tgt := 116) hx hb dX12_either_109 (by decide) (fun c_2739 => ?_) (fun c_2739 => absurd c_2739 (by decide))
                      refine lv_goto (tgt := 6) hx hb dX12_either_116 (by decide) ?_
                      exact ih_2609 x_2663 (0 : Int32) (0 : Int32) I_2631 J_2632 ri_2633 _ _ _ (rg_w h_2721 (by decide)) (rg_w (rg_k (0 : Int32) 0 rfl) (by decide)) (rg_w (rg_k (0 : Int32) 0 rfl) (by decide)) (by have zc0 : (0 : Int32).toInt = 0 := rfl; have zc1 : (1 : Int32).toInt = 1 := rfl; exact ⟨fun q => absurd q (by decide), fun _ => PBz_cg hpbD (by omega) (by omega) (by omega) (by omega) (by omega) rfl⟩) htmA (by have zc0 : (0 : Int32).toInt = 0 := rfl; have zc1 : (1 : Int32).toInt = 1 := rfl; exact tm_ms2' hm_2606 ⟨tm_lec (hp_2637.resolve_left (fun q => q (by omega))).2 (by omega) (by omega), Or.inr (by omega)⟩ (tm_b ((hG.1.1 391 this).2)) (by omega) (by omega)) hF hFr hG hP hD hS (lv_sub hl [5, 3, 1, 0] rfl)
                  · replace hF := hF.trans (if_neg c_2722)
                    have tc_2740 : (x_1950).toInt ≠ 0 := fun q => c_2722 (Int32.toInt_inj.mp q)
                    have h_2741 : rg x_1950 1 1 := rg_ne c_2722 h_2616 0 rfl (by decide)
                    have uh_2741 := h_2741.1
                    have vh_2741 := h_2741.2
                    refine lv_aload_n hx hb dX12_either_83 rfl (lv_at hl 3 rfl) ?_
                    refine lv_bipush (v := 22) hx hb dX12_either_84 (by decide) ?_
                    refine lv_iconst (v := 0) hx hb dX12_either_86 (by decide) ?_
                    have hq1 := PBz_t hpbC
                    have hq2 := PBz_w hpbC (Or.inr (by omega))
                    refine pk_v (va_runV (As := [.int 22, .int 0]) (rest := []) ⟨hx, hb, hml, hown, hts⟩ (s_X12_emit l D t σ I_2631 J_2632 ri_2633 rj rq H.size tg hSH hG.1 this (22 : Int32) (0 : Int32) hL_this hK_this this_a hR_this_a hL_this_a hK_this_a hN_this_a hT_this_a (by omega) (by omega)) (cwV 2 hts (tw_V tw_905 tw_906 tw_907 tw_5 tw_908) rfl rfl rfl cv_yX12_emit_2 ⟨Nat.le_of_ble_eq_true rfl, Nat.le_of_ble_eq_true rfl⟩) ⟨pq_blind, pq_recv hK hP hL_this hK_this (by decide) rfl, pq_pre hK hN hP hD⟩ rfl rfl hl.1 rfl (lv_room (Nat.le_of_ble_eq_true rfl)) dX12_either_87 ⟨Nat.le_of_ble_eq_true rfl, Nat.le_of_ble_eq_true rfl⟩) hD hS hA (fun σ1 μ1 H locs hw_2743 hP hD hS => ?_)
                    obtain ⟨I_2744, ri_2745, hu_2746, hg_2747, hp_2749, hp_2750, hp_2751, hp_2752, hfn_2753, hfr_2754⟩ := hw_2743
                    obtain ⟨hu_2746a, hu_2746b⟩ := Prod.mk.inj hu_2746
                    rw [hu_2746a, hu_2746b] at hP hD
                    replace hF := hF.trans (bv_n hfn_2753)
                    replace hFr := fr_tr hFr hfr_2754
                    obtain ⟨v_2755, ev_2755, hv_2755⟩ := hp_2749
                    have tt_2756 : (I_2744 398 this).toInt = (I_2631 398 this).toInt + 1 := by rw [ev_2755, pq_us]; exact hv_2755
                    have tt_2757 : (I_2744 403 this).toInt = (I_2631 403 this).toInt := by rw [ev_2755, pq_uf _ _ _ (by decide)]
                    have hG := GM.tr hG hg_2747 (by decide)
                    have tt_2758 : (I_2744 396 this).toInt = (I_2631 396 this).toInt := by rw [hg_2747.2.1 396 (by decide) (by decide)]
                    have tt_2759 : (I_2744 401 this).toInt = (I_2631 401 this).toInt := by rw [hg_2747.2.1 401 (by decide) (by decide)]
                    have tt_2760 : (I_2744 402 this).toInt = (I_2631 402 this).toInt := by rw [hg_2747.2.1 402 (by decide) (by decide)]
                    have tt_2761 : (I_2744 391 this).toInt = (I_2631 391 this).toInt := by rw [hg_2747.2.1 391 (by decide) (by decide)]
                    have tt_2762 : (I_2744 393 this).toInt = (I_2631 393 this).toInt := by rw [hg_2747.2.1 393 (by decide) (by decide)]
                    have tt_2763 : (I_2744 397 this).toInt = (I_2631 397 this).toInt := by rw [hg_2747.2.1 397 (by decide) (by decide)]
                    have hpbD : PBz (I_2744 396 this).toInt (I_2744 398 this).toInt (I_2744 402 this).toInt (I_2744 391 this).toInt (I_2744 393 this).toInt (ri_2745 this_a) bb f0 fr va (tb + 1) nn K := by have zc0 : (0 : Int32).toInt = 0 := rfl; have zc1 : (1 : Int32).toInt = 1 := rfl; have zo : (22 : Int32).toInt = 22 := rfl; exact PBz_em (x := 22) (by rw [show K + 1 = (K + (x_1950).toInt) from by omega]; exact hpbC) (by omega) (fun j hj => hp_2750 j (by omega)) (by rw [show (I_2631 396 this).toInt + 250 + 2 * (I_2631 398 this).toInt = (I_2631 396 this).toInt + 250 + 2 * (I_2631 398 this).toInt from by omega]; exact hp_2751) (by omega) (by omega) (by omega) (by omega) (by omega) (by omega)
                    refine lv_iload hx hb dX12_either_90 (lv_at hl 0 rfl) ?_
                    refine lv_istore_n (lv' := [(2, .int 0), (5, .int 0), (1, .int x_2663), (4, .int x_2629), (0, .ref this), (3, .int x_1951)]) hx hb dX12_either_92 rfl hl (by decide) rfl (fun ls hl => ?_)
                    refine lv_iload_n hx hb dX12_either_93 rfl (lv_at hl 2 rfl) ?_
                    refine lv_if_ne (tgt := 102) hx hb dX12_either_94 (by decide) (fun c_2764 => ?_) (fun c_2764 => ?_)
                    · have f_2769 := (hr_2667.resolve_right (fun q => c_2764 q.1)).2
                      have tc_2770 : (x_2663).toInt ≠ 0 := fun q => c_2764 (Int32.toInt_inj.mp q)
                      exact (rg_empty (rg_ne c_2764 h_2721 0 rfl (lo := 1) (hi := (-1)) (by decide)) (by decide)).elim
                    · have f_2771 := (hr_2667.resolve_left (fun q => absurd (q.1.symm.trans c_2764) (by decide))).2
                      have tc_2772 : (x_2663).toInt = 0 := congrArg Int32.toInt c_2764
                      refine lv_iload hx hb dX12_either_97 (lv_at hl 1 rfl) ?_
                      refine lv_if_eq (tgt := 106) hx hb dX12_either_99 (by decide) (fun c_2773 => ?_) (fun c_2773 => absurd c_2773 (by decide))
                      refine lv_iconst (v := 0) hx hb dX12_either_106 (by decide) ?_
                      refine lv_istore_n (lv' := [(3, .int 0), (2, .int 0), (5, .int 0), (1, .int x_2663), (4, .int x_2629), (0, .ref this)]) hx hb dX12_either_107 rfl hl (by decide) rfl (fun ls hl => ?_)
                      refine lv_iload_n hx hb dX12_either_108 rfl (lv_at hl 0 rfl) ?_
                      refine lv_if_eq (tgt := 116) hx hb dX12_either_109 (by decide) (fun c_2774 => ?_) (fun c_2774 => absurd c_2774 (by decide))
                      refine lv_goto (tgt := 6) hx hb dX12_either_116 (by decide) ?_
                      exact ih_2609 x_2663 (0 : Int32) (0 : Int32) I_2744 J_2632 ri_2745 _ _ _ (rg_w h_2721 (by decide)) (rg_w (rg_k (0 : Int32) 0 rfl) (by decide)) (rg_w (rg_k (0 : Int32) 0 rfl) (by decide)) (by have zc0 : (0 : Int32).toInt = 0 := rfl; have zc1 : (1 : Int32).toInt = 1 := rfl; exact ⟨fun q => absurd q (by decide), fun _ => PBz_cg hpbD (by omega) (by omega) (by omega) (by omega) (by omega) rfl⟩) (tm_lec htmA (by omega) (by omega)) (by have zc0 : (0 : Int32).toInt = 0 := rfl; have zc1 : (1 : Int32).toInt = 1 := rfl; exact tm_ms2' hm_2606 ⟨tm_lec (hp_2637.resolve_left (fun q => q (by omega))).2 (by omega) (by omega), Or.inr (by omega)⟩ (tm_b ((hG.1.1 391 this).2)) (by omega) (by omega)) hF hFr hG hP hD hS (lv_sub hl [5, 3, 1, 0] rfl)
              · replace hF := hF.trans (if_pos c_2672)
                have tc_2775 : (I_2631 393 this).toInt = 2 := congrArg Int32.toInt c_2672
                have h_2776 : rg (I_2631 393 this) 2 2 := rg_and (rg_full _) (rg_of_eq c_2672 (rg_k (2 : Int32) 2 rfl)) (by decide)
                have uh_2776 := h_2776.1
                have vh_2776 := h_2776.2
                refine lv_aload_n hx hb dX12_either_57 rfl (lv_at hl 2 rfl) ?_
                refine pg_f (v := .long (J_2632 395 this)) (C := RX12) (T := TX12) (N := 31) hx hb hts (tw_i inlX12) hown hK hP hL_this hK_this (by decide) rfl 11 (by decide) (hts _ (tw_c tw_838)) rfl dX12_either_58 ?_
                replace hF := hF.trans (ap_n (vJ_e (f := 395) hO_this (by decide)))
                refine lv_ldc2 hx hb hown (hts _ (tw_c tw_874)) dX12_either_61 ?_
                refine W.lcmp hx hb dX12_either_64 ?_
                refine lv_topi (fun x_2778 ex_2778 => ?_)
                replace hF := hF.trans (ap_n ex_2778)
                refine lv_if_ne (tgt := 72) hx hb dX12_either_65 (by decide) (fun c_2779 => ?_) (fun c_2779 => ?_)
                · replace hF := hF.trans (if_neg c_2779)
                  have tc_2783 : (x_2778).toInt ≠ 0 := fun q => c_2779 (Int32.toInt_inj.mp q)
                  refine lv_iconst (v := 0) hx hb dX12_either_72 (by decide) ?_
                  refine lv_istore (lv' := [(5, .int 0), (1, .int x_2663), (4, .int x_2629), (0, .ref this), (2, .int x_1950), (3, .int x_1951)]) hx hb dX12_either_73 hl (by decide) rfl (fun ls hl => ?_)
                  refine lv_iload_n hx hb dX12_either_75 rfl (lv_at hl 1 rfl) ?_
                  refine lv_if_ne (tgt := 93) hx hb dX12_either_76 (by decide) (fun c_2784 => ?_) (fun c_2784 => ?_)
                  · replace hF := hF.trans (if_neg c_2784)
                    have f_2791 := (hr_2667.resolve_right (fun q => c_2784 q.1)).2
                    have tc_2792 : (x_2663).toInt ≠ 0 := fun q => c_2784 (Int32.toInt_inj.mp q)
                    have h_2793 : rg x_2663 1 1 := rg_ne c_2784 h_2670 0 rfl (by decide)
                    have uh_2793 := h_2793.1
                    have vh_2793 := h_2793.2
                    refine lv_iload_n hx hb dX12_either_93 rfl (lv_at hl 1 rfl) ?_
                    refine lv_if_ne (tgt := 102) hx hb dX12_either_94 (by decide) (fun c_2794 => ?_) (fun c_2794 => ?_)
                    · have f_2799 := (hr_2667.resolve_right (fun q => c_2794 q.1)).2
                      have tc_2800 : (x_2663).toInt ≠ 0 := fun q => c_2794 (Int32.toInt_inj.mp q)
                      refine lv_iconst (v := 1) hx hb dX12_either_102 (by decide) ?_
                      refine lv_goto (tgt := 107) hx hb dX12_either_103 (by decide) ?_
                      refine lv_istore_n (lv' := [(3, .int 1), (5, .int 0), (1, .int x_2663), (4, .int x_2629), (0, .ref this), (2, .int x_1950)]) hx hb dX12_either_107 rfl hl (by decide) rfl (fun ls hl => ?_)
                      refine lv_iload_n hx hb dX12_either_108 rfl (lv_at hl 0 rfl) ?_
                      refine lv_if_eq (tgt := 116) hx hb dX12_either_109 (by decide) (fun c_2801 => absurd c_2801 (by decide)) (fun c_2801 => ?_)
                      refine lv_aload_n hx hb dX12_either_112 rfl (lv_at hl 4 rfl) ?_
                      obtain ⟨w_2802, hR_w_2802, hL_w_2802, hK_w_2802, hN_w_2802, hT_w_2802⟩ := sh_a hSH 387 (ci := 12) (kd := 13) (len := 300) rfl (by decide) hL_this hK_this
                      have hO_w_2802 : w_2802 = vrow σ 387 this := vo_k (c := 12) hO_this hR_w_2802
                      refine pk_v (va_runV (As := []) (rest := []) ⟨hx, hb, hml, hown, hts⟩ (s_X12_nextToken_x l D t σ I_2631 J_2632 ri_2633 rj rq H.size tg hSH hG.1 this hL_this hK_this w_2802 hR_w_2802 hL_w_2802 hK_w_2802 hN_w_2802 hT_w_2802) (cwV 0 hts (tw_V tw_832 tw_833 tw_834 tw_5 tw_835) rfl rfl rfl cv_yX12_nextToken_0 ⟨Nat.le_of_ble_eq_true rfl, Nat.le_of_ble_eq_true rfl⟩) ⟨pq_blind, pq_recv hK hP hL_this hK_this (by decide) rfl, pq_pre hK hN hP hD⟩ rfl rfl hl.1 rfl (lv_room (Nat.le_of_ble_eq_true rfl)) dX12_either_113 ⟨Nat.le_of_ble_eq_true rfl, Nat.le_of_ble_eq_true rfl⟩) hD hS hA (fun σ1 μ1 H locs hw_2804 hP hD hS => ?_)
                      obtain ⟨I_2805, J_2806, hu_2807, hg_2808, hp_2810, hp_2811, hp_2812, hfn_2813, hfr_2814⟩ := hw_2804
                      obtain ⟨hu_2807a, hu_2807b⟩ := Prod.mk.inj hu_2807
                      rw [hu_2807a, hu_2807b] at hP hD
                      replace hF := hF.trans (bv_n hfn_2813)
                      replace hFr := fr_tr hFr hfr_2814
                      have tt_2815 := hp_2810
                      have tt_2816 := hp_2811
                      have tt_2817 := hp_2812
                      have tt_2818 : (I_2805 391 this).toInt ≤ 300 := by have z := hg_2808.1.1 391 this; exact z.2
                      have hG := GM.tr hG hg_2808 (by decide)
                      have tt_2819 : (I_2805 396 this).toInt = (I_2631 396 this).toInt := by rw [hg_2808.2.1 396 (by decide) (by decide)]
                      have tt_2820 : (I_2805 398 this).toInt = (I_2631 398 this).toInt := by rw [hg_2808.2.1 398 (by decide) (by decide)]
                      have tt_2821 : (I_2805 401 this).toInt = (I_2631 401 this).toInt := by rw [hg_2808.2.1 401 (by decide) (by decide)]
                      have tt_2822 : (I_2805 402 this).toInt = (I_2631 402 this).toInt := by rw [hg_2808.2.1 402 (by decide) (by decide)]
                      have tt_2823 : (I_2805 397 this).toInt = (I_2631 397 this).toInt := by rw [hg_2808.2.1 397 (by decide) (by decide)]
                      refine lv_goto (tgt := 6) hx hb dX12_either_116 (by decide) ?_
                      exact ih_2609 x_2663 x_1950 (1 : Int32) I_2805 J_2806 ri_2633 _ _ _ (rg_w h_2793 (by decide)) (rg_w h_2616 (by decide)) (rg_w (rg_k (1 : Int32) 1 rfl) (by decide)) (by have zc0 : (0 : Int32).toInt = 0 := rfl; have zc1 : (1 : Int32).toInt = 1 := rfl; exact ⟨fun _ => by rw [show tb + (x_2663).toInt + (x_1950).toInt = (tb + (x_1950).toInt + 1) from by omega, show K + (x_2663).toInt + (x_1950).toInt = (K + (x_1950).toInt) + 1 from by omega]; exact PBz_tok hpbC (by omega) (by omega) (by omega) (by omega) (by omega) (by omega) (by omega) rfl, fun q => absurd q (by decide)⟩) (Int.le_of_lt (Int.lt_of_lt_of_le (tm_lt (by omega) (by omega) (by omega)) htmA)) (by have zc0 : (0 : Int32).toInt = 0 := rfl; have zc1 : (1 : Int32).toInt = 1 := rfl; exact tm_ms2' hm_2606 ⟨Int.le_of_lt (Int.lt_of_lt_of_le (tm_lt (s := (I_2631 391 this).toInt) (k := (I_2631 393 this).toInt) (by omega) (by omega) (by omega)) (tm_lec (hp_2637.resolve_left (fun q => q (by omega))).2 (by omega) (by omega))), Or.inl (Int.lt_of_lt_of_le (tm_lt (s := (I_2631 391 this).toInt) (k := (I_2631 393 this).toInt) (by omega) (by omega) (by omega)) (tm_lec (hp_2637.resolve_left (fun q => q (by omega))).2 (by omega) (by omega)))⟩ (tm_b ((hG.1.1 391 this).2)) (by omega) (by omega)) hF hFr hG hP hD hS (lv_sub hl [4, 2, 5, 0] rfl)
                    · have f_2824 := (hr_2667.resolve_left (fun q => absurd (q.1.symm.trans c_2794) (by decide))).2
                      have tc_2825 : (x_2663).toInt = 0 := congrArg Int32.toInt c_2794
                      exact (rg_empty (rg_and h_2793 (rg_of_eq c_2794 (rg_k (0 : Int32) 0 rfl)) (lo := 1) (hi := 0) (by decide)) (by decide)).elim
                  · replace hF := hF.trans (if_pos c_2784)
                    have f_2826 := (hr_2667.resolve_left (fun q => absurd (q.1.symm.trans c_2784) (by decide))).2
                    have tc_2827 : (x_2663).toInt = 0 := congrArg Int32.toInt c_2784
                    have h_2828 : rg x_2663 0 0 := rg_and h_2670 (rg_of_eq c_2784 (rg_k (0 : Int32) 0 rfl)) (by decide)
                    have uh_2828 := h_2828.1
                    have vh_2828 := h_2828.2
                    refine lv_iload_n hx hb dX12_either_79 rfl (lv_at hl 4 rfl) ?_
                    refine lv_if_eq (tgt := 90) hx hb dX12_either_80 (by decide) (fun c_2829 => ?_) (fun c_2829 => ?_)
                    · replace hF := hF.trans (if_pos c_2829)
                      have tc_2834 : (x_1950).toInt = 0 := congrArg Int32.toInt c_2829
                      have h_2835 : rg x_1950 0 0 := rg_and h_2616 (rg_of_eq c_2829 (rg_k (0 : Int32) 0 rfl)) (by decide)
                      have uh_2835 := h_2835.1
                      have vh_2835 := h_2835.2
                      have hpbD : PBz (I_2631 396 this).toInt (I_2631 398 this).toInt (I_2631 402 this).toInt (I_2631 391 this).toInt (I_2631 393 this).toInt (ri_2633 this_a) bb f0 fr va (tb + 1) nn K := by have q := hpbC; rw [show (tb + (x_1950).toInt + 1) = tb + 1 from by omega, show (K + (x_1950).toInt) = K from by omega] at q; exact q
                      refine lv_iload hx hb dX12_either_90 (lv_at hl 0 rfl) ?_
                      refine lv_istore_n (lv' := [(2, .int 0), (5, .int 0), (1, .int x_2663), (4, .int x_2629), (0, .ref this), (3, .int x_1951)]) hx hb dX12_either_92 rfl hl (by decide) rfl (fun ls hl => ?_)
                      refine lv_iload_n hx hb dX12_either_93 rfl (lv_at hl 2 rfl) ?_
                      refine lv_if_ne (tgt := 102) hx hb dX12_either_94 (by decide) (fun c_2836 => ?_) (fun c_2836 => ?_)
                      · have f_2841 := (hr_2667.resolve_right (fun q => c_2836 q.1)).2
                        have tc_2842 : (x_2663).toInt ≠ 0 := fun q => c_2836 (Int32.toInt_inj.mp q)
                        exact (rg_empty (rg_ne c_2836 h_2828 0 rfl (lo := 1) (hi := (-1)) (by decide)) (by decide)).elim
                      · have f_2843 := (hr_2667.resolve_left (fun q => absurd (q.1.symm.trans c_2836) (by decide))).2
                        have tc_2844 : (x_2663).toInt = 0 := congrArg Int32.toInt c_2836
                        refine lv_iload hx hb dX12_either_97 (lv_at hl 1 rfl) ?_
                        refine lv_if_eq (tgt := 106) hx hb dX12_either_99 (by decide) (fun c_2845 => ?_) (fun c_2845 => absurd c_2845 (by decide))
                        refine lv_iconst (v := 0) hx hb dX12_either_106 (by decide) ?_
                        refine lv_istore_n (lv' := [(3, .int 0), (2, .int 0), (5, .int 0), (1, .int x_2663), (4, .int x_2629), (0, .ref this)]) hx hb dX12_either_107 rfl hl (by decide) rfl (fun ls hl => ?_)
                        refine lv_iload_n hx hb dX12_either_108 rfl (lv_at hl 0 rfl) ?_
                        refine lv_if_eq (tgt := 116) hx hb dX12_either_109 (by decide) (fun c_2846 => ?_) (fun c_2846 => absurd c_2846 (by decide))
                        refine lv_goto (tgt := 6) hx hb dX12_either_116 (by decide) ?_
                        exact ih_2609 x_2663 (0 : Int32) (0 : Int32) I_2631 J_2632 ri_2633 _ _ _ (rg_w h_2828 (by decide)) (rg_w (rg_k (0 : Int32) 0 rfl) (by decide)) (rg_w (rg_k (0 : Int32) 0 rfl) (by decide)) (by have zc0 : (0 : Int32).toInt = 0 := rfl; have zc1 : (1 : Int32).toInt = 1 := rfl; exact ⟨fun q => absurd q (by decide), fun _ => PBz_cg hpbD (by omega) (by omega) (by omega) (by omega) (by omega) rfl⟩) htmA (by have zc0 : (0 : Int32).toInt = 0 := rfl; have zc1 : (1 : Int32).toInt = 1 := rfl; exact tm_ms2' hm_2606 ⟨tm_lec (hp_2637.resolve_left (fun q => q (by omega))).2 (by omega) (by omega), Or.inr (by omega)⟩ (tm_b ((hG.1.1 391 this).2)) (by omega) (by omega)) hF hFr hG hP hD hS (lv_sub hl [5, 3, 1, 0] rfl)
                    · replace hF := hF.trans (if_neg c_2829)
                      have tc_2847 : (x_1950).toInt ≠ 0 := fun q => c_2829 (Int32.toInt_inj.mp q)
                      have h_2848 : rg x_1950 1 1 := rg_ne c_2829 h_2616 0 rfl (by decide)
                      have uh_2848 := h_2848.1
                      have vh_2848 := h_2848.2
                      refine lv_aload_n hx hb dX12_either_83 rfl (lv_at hl 3 rfl) ?_
                      refine lv_bipush (v := 22) hx hb dX12_either_84 (by decide) ?_
                      refine lv_iconst (v := 0) hx hb dX12_either_86 (by decide) ?_
                      have hq1 := PBz_t hpbC
                      have hq2 := PBz_w hpbC (Or.inr (by omega))
                      refine pk_v (va_runV (As := [.int 22, .int 0]) (rest := []) ⟨hx, hb, hml, hown, hts⟩ (s_X12_emit l D t σ I_2631 J_2632 ri_2633 rj rq H.size tg hSH hG.1 this (22 : Int32) (0 : Int32) hL_this hK_this this_a hR_this_a hL_this_a hK_this_a hN_this_a hT_this_a (by omega) (by omega)) (cwV 2 hts (tw_V tw_905 tw_906 tw_907 tw_5 tw_908) rfl rfl rfl cv_yX12_emit_2 ⟨Nat.le_of_ble_eq_true rfl, Nat.le_of_ble_eq_true rfl⟩) ⟨pq_blind, pq_recv hK hP hL_this hK_this (by decide) rfl, pq_pre hK hN hP hD⟩ rfl rfl hl.1 rfl (lv_room (Nat.le_of_ble_eq_true rfl)) dX12_either_87 ⟨Nat.le_of_ble_eq_true rfl, Nat.le_of_ble_eq_true rfl⟩) hD hS hA (fun σ1 μ1 H locs hw_2850 hP hD hS => ?_)
                      obtain ⟨I_2851, ri_2852, hu_2853, hg_2854, hp_2856, hp_2857, hp_2858, hp_2859, hfn_2860, hfr_2861⟩ := hw_2850
                      obtain ⟨hu_2853a, hu_2853b⟩ := Prod.mk.inj hu_2853
                      rw [hu_2853a, hu_2853b] at hP hD
                      replace hF := hF.trans (bv_n hfn_2860)
                      replace hFr := fr_tr hFr hfr_2861
                      obtain ⟨v_2862, ev_2862, hv_2862⟩ := hp_2856
                      have tt_2863 : (I_2851 398 this).toInt = (I_2631 398 this).toInt + 1 := by rw [ev_2862, pq_us]; exact hv_2862
                      have tt_2864 : (I_2851 403 this).toInt = (I_2631 403 this).toInt := by rw [ev_2862, pq_uf _ _ _ (by decide)]
                      have hG := GM.tr hG hg_2854 (by decide)
                      have tt_2865 : (I_2851 396 this).toInt = (I_2631 396 this).toInt := by rw [hg_2854.2.1 396 (by decide) (by decide)]
                      have tt_2866 : (I_2851 401 this).toInt = (I_2631 401 this).toInt := by rw [hg_2854.2.1 401 (by decide) (by decide)]
                      have tt_2867 : (I_2851 402 this).toInt = (I_2631 402 this).toInt := by rw [hg_2854.2.1 402 (by decide) (by decide)]
                      have tt_2868 : (I_2851 391 this).toInt = (I_2631 391 this).toInt := by rw [hg_2854.2.1 391 (by decide) (by decide)]
                      have tt_2869 : (I_2851 393 this).toInt = (I_2631 393 this).toInt := by rw [hg_2854.2.1 393 (by decide) (by decide)]
                      have tt_2870 : (I_2851 397 this).toInt = (I_2631 397 this).toInt := by rw [hg_2854.2.1 397 (by decide) (by decide)]
                      have hpbD : PBz (I_2851 396 this).toInt (I_2851 398 this).toInt (I_2851 402 this).toInt (I_2851 391 this).toInt (I_2851 393 this).toInt (ri_2852 this_a) bb f0 fr va (tb + 1) nn K := by have zc0 : (0 : Int32).toInt = 0 := rfl; have zc1 : (1 : Int32).toInt = 1 := rfl; have zo : (22 : Int32).toInt = 22 := rfl; exact PBz_em (x := 22) (by rw [show K + 1 = (K + (x_1950).toInt) from by omega]; exact hpbC) (by omega) (fun j hj => hp_2857 j (by omega)) (by rw [show (I_2631 396 this).toInt + 250 + 2 * (I_2631 398 this).toInt = (I_2631 396 this).toInt + 250 + 2 * (I_2631 398 this).toInt from by omega]; exact hp_2858) (by omega) (by omega) (by omega) (by omega) (by omega) (by omega)
                      refine lv_iload hx hb dX12_either_90 (lv_at hl 0 rfl) ?_
                      refine lv_istore_n (lv' := [(2, .int 0), (5, .int 0), (1, .int x_2663), (4, .int x_2629), (0, .ref this), (3, .int x_1951)]) hx hb dX12_either_92 rfl hl (by decide) rfl (fun ls hl => ?_)
                      refine lv_iload_n hx hb dX12_either_93 rfl (lv_at hl 2 rfl) ?_
                      refine lv_if_ne (tgt := 102) hx hb dX12_either_94 (by decide) (fun c_2871 => ?_) (fun c_2871 => ?_)
                      · have f_2876 := (hr_2667.resolve_right (fun q => c_2871 q.1)).2
                        have tc_2877 : (x_2663).toInt ≠ 0 := fun q => c_2871 (Int32.toInt_inj.mp q)
                        exact (rg_empty (rg_ne c_2871 h_2828 0 rfl (lo := 1) (hi := (-1)) (by decide)) (by decide)).elim
                      · have f_2878 := (hr_2667.resolve_left (fun q => absurd (q.1.symm.trans c_2871) (by decide))).2
                        have tc_2879 : (x_2663).toInt = 0 := congrArg Int32.toInt c_2871
                        refine lv_iload hx hb dX12_either_97 (lv_at hl 1 rfl) ?_
                        refine lv_if_eq (tgt := 106) hx hb dX12_either_99 (by decide) (fun c_2880 => ?_) (fun c_2880 => absurd c_2880 (by decide))
                        refine lv_iconst (v := 0) hx hb dX12_either_106 (by decide) ?_
                        refine lv_istore_n (lv' := [(3, .int 0), (2, .int 0), (5, .int 0), (1, .int x_2663), (4, .int x_2629), (0, .ref this)]) hx hb dX12_either_107 rfl hl (by decide) rfl (fun ls hl => ?_)
                        refine lv_iload_n hx hb dX12_either_108 rfl (lv_at hl 0 rfl) ?_
                        refine lv_if_eq (tgt := 116) hx hb dX12_either_109 (by decide) (fun c_2881 => ?_) (fun c_2881 => absurd c_2881 (by decide))
                        refine lv_goto (tgt := 6) hx hb dX12_either_116 (by decide) ?_
                        exact ih_2609 x_2663 (0 : Int32) (0 : Int32) I_2851 J_2632 ri_2852 _ _ _ (rg_w h_2828 (by decide)) (rg_w (rg_k (0 : Int32) 0 rfl) (by decide)) (rg_w (rg_k (0 : Int32) 0 rfl) (by decide)) (by have zc0 : (0 : Int32).toInt = 0 := rfl; have zc1 : (1 : Int32).toInt = 1 := rfl; exact ⟨fun q => absurd q (by decide), fun _ => PBz_cg hpbD (by omega) (by omega) (by omega) (by omega) (by omega) rfl⟩) (tm_lec htmA (by omega) (by omega)) (by have zc0 : (0 : Int32).toInt = 0 := rfl; have zc1 : (1 : Int32).toInt = 1 := rfl; exact tm_ms2' hm_2606 ⟨tm_lec (hp_2637.resolve_left (fun q => q (by omega))).2 (by omega) (by omega), Or.inr (by omega)⟩ (tm_b ((hG.1.1 391 this).2)) (by omega) (by omega)) hF hFr hG hP hD hS (lv_sub hl [5, 3, 1, 0] rfl)
                · replace hF := hF.trans (if_pos c_2779)
                  have tc_2882 : (x_2778).toInt = 0 := congrArg Int32.toInt c_2779
                  have h_2883 : rg x_2778 0 0 := rg_and (rg_full _) (rg_of_eq c_2779 (rg_k (0 : Int32) 0 rfl)) (by decide)
                  have uh_2883 := h_2883.1
                  have vh_2883 := h_2883.2
                  refine lv_iconst (v := 1) hx hb dX12_either_68 (by decide) ?_
                  refine lv_goto (tgt := 73) hx hb dX12_either_69 (by decide) ?_
                  refine lv_istore (lv' := [(5, .int 1), (1, .int x_2663), (4, .int x_2629), (0, .ref this), (2, .int x_1950), (3, .int x_1951)]) hx hb dX12_either_73 hl (by decide) rfl (fun ls hl => ?_)
                  refine lv_iload_n hx hb dX12_either_75 rfl (lv_at hl 1 rfl) ?_
                  refine lv_if_ne (tgt := 93) hx hb dX12_either_76 (by decide) (fun c_2884 => ?_) (fun c_2884 => ?_)
                  · replace hF := hF.trans (if_neg c_2884)
                    have f_2891 := (hr_2667.resolve_right (fun q => c_2884 q.1)).2
                    have tc_2892 : (x_2663).toInt ≠ 0 := fun q => c_2884 (Int32.toInt_inj.mp q)
                    have h_2893 : rg x_2663 1 1 := rg_ne c_2884 h_2670 0 rfl (by decide)
                    have uh_2893 := h_2893.1
                    have vh_2893 := h_2893.2
                    refine lv_iload_n hx hb dX12_either_93 rfl (lv_at hl 1 rfl) ?_
                    refine lv_if_ne (tgt := 102) hx hb dX12_either_94 (by decide) (fun c_2894 => ?_) (fun c_2894 => ?_)
                    · have f_2899 := (hr_2667.resolve_right (fun q => c_2894 q.1)).2
                      have tc_2900 : (x_2663).toInt ≠ 0 := fun q => c_2894 (Int32.toInt_inj.mp q)
                      refine lv_iconst (v := 1) hx hb dX12_either_102 (by decide) ?_
                      refine lv_goto (tgt := 107) hx hb dX12_either_103 (by decide) ?_
                      refine lv_istore_n (lv' := [(3, .int 1), (5, .int 1), (1, .int x_2663), (4, .int x_2629), (0, .ref this), (2, .int x_1950)]) hx hb dX12_either_107 rfl hl (by decide) rfl (fun ls hl => ?_)
                      refine lv_iload_n hx hb dX12_either_108 rfl (lv_at hl 0 rfl) ?_
                      refine lv_if_eq (tgt := 116) hx hb dX12_either_109 (by decide) (fun c_2901 => absurd c_2901 (by decide)) (fun c_2901 => ?_)
                      refine lv_aload_n hx hb dX12_either_112 rfl (lv_at hl 4 rfl) ?_
                      obtain ⟨w_2902, hR_w_2902, hL_w_2902, hK_w_2902, hN_w_2902, hT_w_2902⟩ := sh_a hSH 387 (ci := 12) (kd := 13) (len := 300) rfl (by decide) hL_this hK_this
                      have hO_w_2902 : w_2902 = vrow σ 387 this := vo_k (c := 12) hO_this hR_w_2902
                      refine pk_v (va_runV (As := []) (rest := []) ⟨hx, hb, hml, hown, hts⟩ (s_X12_nextToken_x l D t σ I_2631 J_2632 ri_2633 rj rq H.size tg hSH hG.1 this hL_this hK_this w_2902 hR_w_2902 hL_w_2902 hK_w_2902 hN_w_2902 hT_w_2902) (cwV 0 hts (tw_V tw_832 tw_833 tw_834 tw_5 tw_835) rfl rfl rfl cv_yX12_nextToken_0 ⟨Nat.le_of_ble_eq_true rfl, Nat.le_of_ble_eq_true rfl⟩) ⟨pq_blind, pq_recv hK hP hL_this hK_this (by decide) rfl, pq_pre hK hN hP hD⟩ rfl rfl hl.1 rfl (lv_room (Nat.le_of_ble_eq_true rfl)) dX12_either_113 ⟨Nat.le_of_ble_eq_true rfl, Nat.le_of_ble_eq_true rfl⟩) hD hS hA (fun σ1 μ1 H locs hw_2904 hP hD hS => ?_)
                      obtain ⟨I_2905, J_2906, hu_2907, hg_2908, hp_2910, hp_2911, hp_2912, hfn_2913, hfr_2914⟩ := hw_2904
                      obtain ⟨hu_2907a, hu_2907b⟩ := Prod.mk.inj hu_2907
                      rw [hu_2907a, hu_2907b] at hP hD
                      replace hF := hF.trans (bv_n hfn_2913)
                      replace hFr := fr_tr hFr hfr_2914
                      have tt_2915 := hp_2910
                      have tt_2916 := hp_2911
                      have tt_2917 := hp_2912
                      have tt_2918 : (I_2905 391 this).toInt ≤ 300 := by have z := hg_2908.1.1 391 this; exact z.2
                      have hG := GM.tr hG hg_2908 (by decide)
                      have tt_2919 : (I_2905 396 this).toInt = (I_2631 396 this).toInt := by rw [hg_2908.2.1 396 (by decide) (by decide)]
                      have tt_2920 : (I_2905 398 this).toInt = (I_2631 398 this).toInt := by rw [hg_2908.2.1 398 (by decide) (by decide)]
                      have tt_2921 : (I_2905 401 this).toInt = (I_2631 401 this).toInt := by rw [hg_2908.2.1 401 (by decide) (by decide)]
                      have tt_2922 : (I_2905 402 this).toInt = (I_2631 402 this).toInt := by rw [hg_2908.2.1 402 (by decide) (by decide)]
                      have tt_2923 : (I_2905 397 this).toInt = (I_2631 397 this).toInt := by rw [hg_2908.2.1 397 (by decide) (by decide)]
                      refine lv_goto (tgt := 6) hx hb dX12_either_116 (by decide) ?_
                      exact ih_2609 x_2663 x_1950 (1 : Int32) I_2905 J_2906 ri_2633 _ _ _ (rg_w h_2893 (by decide)) (rg_w h_2616 (by decide)) (rg_w (rg_k (1 : Int32) 1 rfl) (by decide)) (by have zc0 : (0 : Int32).toInt = 0 := rfl; have zc1 : (1 : Int32).toInt = 1 := rfl; exact ⟨fun _ => by rw [show tb + (x_2663).toInt + (x_1950).toInt = (tb + (x_1950).toInt + 1) from by omega, show K + (x_2663).toInt + (x_1950).toInt = (K + (x_1950).toInt) + 1 from by omega]; exact PBz_tok hpbC (by omega) (by omega) (by omega) (by omega) (by omega) (by omega) (by omega) rfl, fun q => absurd q (by decide)⟩) (Int.le_of_lt (Int.lt_of_lt_of_le (tm_lt (by omega) (by omega) (by omega)) htmA)) (by have zc0 : (0 : Int32).toInt = 0 := rfl; have zc1 : (1 : Int32).toInt = 1 := rfl; exact tm_ms2' hm_2606 ⟨Int.le_of_lt (Int.lt_of_lt_of_le (tm_lt (s := (I_2631 391 this).toInt) (k := (I_2631 393 this).toInt) (by omega) (by omega) (by omega)) (tm_lec (hp_2637.resolve_left (fun q => q (by omega))).2 (by omega) (by omega))), Or.inl (Int.lt_of_lt_of_le (tm_lt (s := (I_2631 391 this).toInt) (k := (I_2631 393 this).toInt) (by omega) (by omega) (by omega)) (tm_lec (hp_2637.resolve_left (fun q => q (by omega))).2 (by omega) (by omega)))⟩ (tm_b ((hG.1.1 391 this).2)) (by omega) (by omega)) hF hFr hG hP hD hS (lv_sub hl [4, 2, 5, 0] rfl)
                    · have f_2924 := (hr_2667.resolve_left (fun q => absurd (q.1.symm.trans c_2894) (by decide))).2
                      have tc_2925 : (x_2663).toInt = 0 := congrArg Int32.toInt c_2894
                      exact (rg_empty (rg_and h_2893 (rg_of_eq c_2894 (rg_k (0 : Int32) 0 rfl)) (lo := 1) (hi := 0) (by decide)) (by decide)).elim
                  · replace hF := hF.trans (if_pos c_2884)
                    have f_2926 := (hr_2667.resolve_left (fun q => absurd (q.1.symm.trans c_2884) (by decide))).2
                    have tc_2927 : (x_2663).toInt = 0 := congrArg Int32.toInt c_2884
                    have h_2928 : rg x_2663 0 0 := rg_and h_2670 (rg_of_eq c_2884 (rg_k (0 : Int32) 0 rfl)) (by decide)
                    have uh_2928 := h_2928.1
                    have vh_2928 := h_2928.2
                    refine lv_iload_n hx hb dX12_either_79 rfl (lv_at hl 4 rfl) ?_
                    refine lv_if_eq (tgt := 90) hx hb dX12_either_80 (by decide) (fun c_2929 => ?_) (fun c_2929 => ?_)
                    · replace hF := hF.trans (if_pos c_2929)
                      have tc_2934 : (x_1950).toInt = 0 := congrArg Int32.toInt c_2929
                      have h_2935 : rg x_1950 0 0 := rg_and h_2616 (rg_of_eq c_2929 (rg_k (0 : Int32) 0 rfl)) (by decide)
                      have uh_2935 := h_2935.1
                      have vh_2935 := h_2935.2
                      have hpbD : PBz (I_2631 396 this).toInt (I_2631 398 this).toInt (I_2631 402 this).toInt (I_2631 391 this).toInt (I_2631 393 this).toInt (ri_2633 this_a) bb f0 fr va (tb + 1) nn K := by have q := hpbC; rw [show (tb + (x_1950).toInt + 1) = tb + 1 from by omega, show (K + (x_1950).toInt) = K from by omega] at q; exact q
                      refine lv_iload hx hb dX12_either_90 (lv_at hl 0 rfl) ?_
                      refine lv_istore_n (lv' := [(2, .int 1), (5, .int 1), (1, .int x_2663), (4, .int x_2629), (0, .ref this), (3, .int x_1951)]) hx hb dX12_either_92 rfl hl (by decide) rfl (fun ls hl => ?_)
                      refine lv_iload_n hx hb dX12_either_93 rfl (lv_at hl 2 rfl) ?_
                      refine lv_if_ne (tgt := 102) hx hb dX12_either_94 (by decide) (fun c_2936 => ?_) (fun c_2936 => ?_)
                      · have f_2941 := (hr_2667.resolve_right (fun q => c_2936 q.1)).2
                        have tc_2942 : (x_2663).toInt ≠ 0 := fun q => c_2936 (Int32.toInt_inj.mp q)
                        exact (rg_empty (rg_ne c_2936 h_2928 0 rfl (lo := 1) (hi := (-1)) (by decide)) (by decide)).elim
                      · have f_2943 := (hr_2667.resolve_left (fun q => absurd (q.1.symm.trans c_2936) (by decide))).2
                        have tc_2944 : (x_2663).toInt = 0 := congrArg Int32.toInt c_2936
                        refine lv_iload hx hb dX12_either_97 (lv_at hl 1 rfl) ?_
                        refine lv_if_eq (tgt := 106) hx hb dX12_either_99 (by decide) (fun c_2945 => absurd c_2945 (by decide)) (fun c_2945 => ?_)
                        refine lv_iconst (v := 1) hx hb dX12_either_102 (by decide) ?_
                        refine lv_goto (tgt := 107) hx hb dX12_either_103 (by decide) ?_
                        refine lv_istore_n (lv' := [(3, .int 1), (2, .int 1), (5, .int 1), (1, .int x_2663), (4, .int x_2629), (0, .ref this)]) hx hb dX12_either_107 rfl hl (by decide) rfl (fun ls hl => ?_)
                        refine lv_iload_n hx hb dX12_either_108 rfl (lv_at hl 0 rfl) ?_
                        refine lv_if_eq (tgt := 116) hx hb dX12_either_109 (by decide) (fun c_2946 => absurd c_2946 (by decide)) (fun c_2946 => ?_)
                        refine lv_aload_n hx hb dX12_either_112 rfl (lv_at hl 5 rfl) ?_
                        obtain ⟨w_2947, hR_w_2947, hL_w_2947, hK_w_2947, hN_w_2947, hT_w_2947⟩ := sh_a hSH 387 (ci := 12) (kd := 13) (len := 300) rfl (by decide) hL_this hK_this
                        have hO_w_2947 : w_2947 = vrow σ 387 this := vo_k (c := 12) hO_this hR_w_2947
                        refine pk_v (va_runV (As := []) (rest := []) ⟨hx, hb, hml, hown, hts⟩ (s_X12_nextToken_x l D t σ I_2631 J_2632 ri_2633 rj rq H.size tg hSH hG.1 this hL_this hK_this w_2947 hR_w_2947 hL_w_2947 hK_w_2947 hN_w_2947 hT_w_2947) (cwV 0 hts (tw_V tw_832 tw_833 tw_834 tw_5 tw_835) rfl rfl rfl cv_yX12_nextToken_0 ⟨Nat.le_of_ble_eq_true rfl, Nat.le_of_ble_eq_true rfl⟩) ⟨pq_blind, pq_recv hK hP hL_this hK_this (by decide) rfl, pq_pre hK hN hP hD⟩ rfl rfl hl.1 rfl (lv_room (Nat.le_of_ble_eq_true rfl)) dX12_either_113 ⟨Nat.le_of_ble_eq_true rfl, Nat.le_of_ble_eq_true rfl⟩) hD hS hA (fun σ1 μ1 H locs hw_2949 hP hD hS => ?_)
                        obtain ⟨I_2950, J_2951, hu_2952, hg_2953, hp_2955, hp_2956, hp_2957, hfn_2958, hfr_2959⟩ := hw_2949
                        obtain ⟨hu_2952a, hu_2952b⟩ := Prod.mk.inj hu_2952
                        rw [hu_2952a, hu_2952b] at hP hD
                        replace hF := hF.trans (bv_n hfn_2958)
                        replace hFr := fr_tr hFr hfr_2959
                        have tt_2960 := hp_2955
                        have tt_2961 := hp_2956
                        have tt_2962 := hp_2957
                        have tt_2963 : (I_2950 391 this).toInt ≤ 300 := by have z := hg_2953.1.1 391 this; exact z.2
                        have hG := GM.tr hG hg_2953 (by decide)
                        have tt_2964 : (I_2950 396 this).toInt = (I_2631 396 this).toInt := by rw [hg_2953.2.1 396 (by decide) (by decide)]
                        have tt_2965 : (I_2950 398 this).toInt = (I_2631 398 this).toInt := by rw [hg_2953.2.1 398 (by decide) (by decide)]
                        have tt_2966 : (I_2950 401 this).toInt = (I_2631 401 this).toInt := by rw [hg_2953.2.1 401 (by decide) (by decide)]
                        have tt_2967 : (I_2950 402 this).toInt = (I_2631 402 this).toInt := by rw [hg_2953.2.1 402 (by decide) (by decide)]
                        have tt_2968 : (I_2950 397 this).toInt = (I_2631 397 this).toInt := by rw [hg_2953.2.1 397 (by decide) (by decide)]
                        refine lv_goto (tgt := 6) hx hb dX12_either_116 (by decide) ?_
                        exact ih_2609 x_2663 (1 : Int32) (1 : Int32) I_2950 J_2951 ri_2633 _ _ _ (rg_w h_2928 (by decide)) (rg_w (rg_k (1 : Int32) 1 rfl) (by decide)) (rg_w (rg_k (1 : Int32) 1 rfl) (by decide)) (by have zc0 : (0 : Int32).toInt = 0 := rfl; have zc1 : (1 : Int32).toInt = 1 := rfl; exact ⟨fun _ => by rw [show tb + (x_2663).toInt + (1 : Int32).toInt = (tb + 1) from by omega, show K + (x_2663).toInt + (1 : Int32).toInt = K + 1 from by omega]; exact PBz_tok hpbD (by omega) (by omega) (by omega) (by omega) (by omega) (by omega) (by omega) rfl, fun q => absurd q (by decide)⟩) (Int.le_of_lt (Int.lt_of_lt_of_le (tm_lt (by omega) (by omega) (by omega)) htmA)) (by have zc0 : (0 : Int32).toInt = 0 := rfl; have zc1 : (1 : Int32).toInt = 1 := rfl; exact tm_ms2' hm_2606 ⟨Int.le_of_lt (Int.lt_of_lt_of_le (tm_lt (s := (I_2631 391 this).toInt) (k := (I_2631 393 this).toInt) (by omega) (by omega) (by omega)) (tm_lec (hp_2637.resolve_left (fun q => q (by omega))).2 (by omega) (by omega))), Or.inl (Int.lt_of_lt_of_le (tm_lt (s := (I_2631 391 this).toInt) (k := (I_2631 393 this).toInt) (by omega) (by omega) (by omega)) (tm_lec (hp_2637.resolve_left (fun q => q (by omega))).2 (by omega) (by omega)))⟩ (tm_b ((hG.1.1 391 this).2)) (by omega) (by omega)) hF hFr hG hP hD hS (lv_sub hl [5, 3, 1, 0] rfl)
                    · replace hF := hF.trans (if_neg c_2929)
                      have tc_2969 : (x_1950).toInt ≠ 0 := fun q => c_2929 (Int32.toInt_inj.mp q)
                      have h_2970 : rg x_1950 1 1 := rg_ne c_2929 h_2616 0 rfl (by decide)
                      have uh_2970 := h_2970.1
                      have vh_2970 := h_2970.2
                      refine lv_aload_n hx hb dX12_either_83 rfl (lv_at hl 3 rfl) ?_
                      refine lv_bipush (v := 22) hx hb dX12_either_84 (by decide) ?_
                      refine lv_iconst (v := 0) hx hb dX12_either_86 (by decide) ?_
                      have hq1 := PBz_t hpbC
                      have hq2 := PBz_w hpbC (Or.inr (by omega))
                      refine pk_v (va_runV (As := [.int 22, .int 0]) (rest := []) ⟨hx, hb, hml, hown, hts⟩ (s_X12_emit l D t σ I_2631 J_2632 ri_2633 rj rq H.size tg hSH hG.1 this (22 : Int32) (0 : Int32) hL_this hK_this this_a hR_this_a hL_this_a hK_this_a hN_this_a hT_this_a (by omega) (by omega)) (cwV 2 hts (tw_V tw_905 tw_906 tw_907 tw_5 tw_908) rfl rfl rfl cv_yX12_emit_2 ⟨Nat.le_of_ble_eq_true rfl, Nat.le_of_ble_eq_true rfl⟩) ⟨pq_blind, pq_recv hK hP hL_this hK_this (by decide) rfl, pq_pre hK hN hP hD⟩ rfl rfl hl.1 rfl (lv_room (Nat.le_of_ble_eq_true rfl)) dX12_either_87 ⟨Nat.le_of_ble_eq_true rfl, Nat.le_of_ble_eq_true rfl⟩) hD hS hA (fun σ1 μ1 H locs hw_2972 hP hD hS => ?_)
                      obtain ⟨I_2973, ri_2974, hu_2975, hg_2976, hp_2978, hp_2979, hp_2980, hp_2981, hfn_2982, hfr_2983⟩ := hw_2972
                      obtain ⟨hu_2975a, hu_2975b⟩ := Prod.mk.inj hu_2975
                      rw [hu_2975a, hu_2975b] at hP hD
                      replace hF := hF.trans (bv_n hfn_2982)
                      replace hFr := fr_tr hFr hfr_2983
                      obtain ⟨v_2984, ev_2984, hv_2984⟩ := hp_2978
                      have tt_2985 : (I_2973 398 this).toInt = (I_2631 398 this).toInt + 1 := by rw [ev_2984, pq_us]; exact hv_2984
                      have tt_2986 : (I_2973 403 this).toInt = (I_2631 403 this).toInt := by rw [ev_2984, pq_uf _ _ _ (by decide)]
                      have hG := GM.tr hG hg_2976 (by decide)
                      have tt_2987 : (I_2973 396 this).toInt = (I_2631 396 this).toInt := by rw [hg_2976.2.1 396 (by decide) (by decide)]
                      have tt_2988 : (I_2973 401 this).toInt = (I_2631 401 this).toInt := by rw [hg_2976.2.1 401 (by decide) (by decide)]
                      have tt_2989 : (I_2973 402 this).toInt = (I_2631 402 this).toInt := by rw [hg_2976.2.1 402 (by decide) (by decide)]
                      have tt_2990 : (I_2973 391 this).toInt = (I_2631 391 this).toInt := by rw [hg_2976.2.1 391 (by decide) (by decide)]
                      have tt_2991 : (I_2973 393 this).toInt = (I_2631 393 this).toInt := by rw [hg_2976.2.1 393 (by decide) (by decide)]
                      have tt_2992 : (I_2973 397 this).toInt = (I_2631 397 this).toInt := by rw [hg_2976.2.1 397 (by decide) (by decide)]
                      have hpbD : PBz (I_2973 396 this).toInt (I_2973 398 this).toInt (I_2973 402 this).toInt (I_2973 391 this).toInt (I_2973 393 this).toInt (ri_2974 this_a) bb f0 fr va (tb + 1) nn K := by have zc0 : (0 : Int32).toInt = 0 := rfl; have zc1 : (1 : Int32).toInt = 1 := rfl; have zo : (22 : Int32).toInt = 22 := rfl; exact PBz_em (x := 22) (by rw [show K + 1 = (K + (x_1950).toInt) from by omega]; exact hpbC) (by omega) (fun j hj => hp_2979 j (by omega)) (by rw [show (I_2631 396 this).toInt + 250 + 2 * (I_2631 398 this).toInt = (I_2631 396 this).toInt + 250 + 2 * (I_2631 398 this).toInt from by omega]; exact hp_2980) (by omega) (by omega) (by omega) (by omega) (by omega) (by omega)
                      refine lv_iload hx hb dX12_either_90 (lv_at hl 0 rfl) ?_
                      refine lv_istore_n (lv' := [(2, .int 1), (5, .int 1), (1, .int x_2663), (4, .int x_2629), (0, .ref this), (3, .int x_1951)]) hx hb dX12_either_92 rfl hl (by decide) rfl (fun ls hl => ?_)
                      refine lv_iload_n hx hb dX12_either_93 rfl (lv_at hl 2 rfl) ?_
                      refine lv_if_ne (tgt := 102) hx hb dX12_either_94 (by decide) (fun c_2993 => ?_) (fun c_2993 => ?_)
                      · have f_2998 := (hr_2667.resolve_right (fun q => c_2993 q.1)).2
                        have tc_2999 : (x_2663).toInt ≠ 0 := fun q => c_2993 (Int32.toInt_inj.mp q)
                        exact (rg_empty (rg_ne c_2993 h_2928 0 rfl (lo := 1) (hi := (-1)) (by decide)) (by decide)).elim
                      · have f_3000 := (hr_2667.resolve_left (fun q => absurd (q.1.symm.trans c_2993) (by decide))).2
                        have tc_3001 : (x_2663).toInt = 0 := congrArg Int32.toInt c_2993
                        refine lv_iload hx hb dX12_either_97 (lv_at hl 1 rfl) ?_
                        refine lv_if_eq (tgt := 106) hx hb dX12_either_99 (by decide) (fun c_3002 => absurd c_3002 (by decide)) (fun c_3002 => ?_)
                        refine lv_iconst (v := 1) hx hb dX12_either_102 (by decide) ?_
                        refine lv_goto (tgt := 107) hx hb dX12_either_103 (by decide) ?_
                        refine lv_istore_n (lv' := [(3, .int 1), (2, .int 1), (5, .int 1), (1, .int x_2663), (4, .int x_2629), (0, .ref this)]) hx hb dX12_either_107 rfl hl (by decide) rfl (fun ls hl => ?_)
                        refine lv_iload_n hx hb dX12_either_108 rfl (lv_at hl 0 rfl) ?_
                        refine lv_if_eq (tgt := 116) hx hb dX12_either_109 (by decide) (fun c_3003 => absurd c_3003 (by decide)) (fun c_3003 => ?_)
                        refine lv_aload_n hx hb dX12_either_112 rfl (lv_at hl 5 rfl) ?_
                        obtain ⟨w_3004, hR_w_3004, hL_w_3004, hK_w_3004, hN_w_3004, hT_w_3004⟩ := sh_a hSH 387 (ci := 12) (kd := 13) (len := 300) rfl (by decide) hL_this hK_this
                        have hO_w_3004 : w_3004 = vrow σ 387 this := vo_k (c := 12) hO_this hR_w_3004
                        refine pk_v (va_runV (As := []) (rest := []) ⟨hx, hb, hml, hown, hts⟩ (s_X12_nextToken_x l D t σ I_2973 J_2632 ri_2974 rj rq H.size tg hSH hG.1 this hL_this hK_this w_3004 hR_w_3004 hL_w_3004 hK_w_3004 hN_w_3004 hT_w_3004) (cwV 0 hts (tw_V tw_832 tw_833 tw_834 tw_5 tw_835) rfl rfl rfl cv_yX12_nextToken_0 ⟨Nat.le_of_ble_eq_true rfl, Nat.le_of_ble_eq_true rfl⟩) ⟨pq_blind, pq_recv hK hP hL_this hK_this (by decide) rfl, pq_pre hK hN hP hD⟩ rfl rfl hl.1 rfl (lv_room (Nat.le_of_ble_eq_true rfl)) dX12_either_113 ⟨Nat.le_of_ble_eq_true rfl, Nat.le_of_ble_eq_true rfl⟩) hD hS hA (fun σ1 μ1 H locs hw_3006 hP hD hS => ?_)
                        obtain ⟨I_3007, J_3008, hu_3009, hg_3010, hp_3012, hp_3013, hp_3014, hfn_3015, hfr_3016⟩ := hw_3006
                        obtain ⟨hu_3009a, hu_3009b⟩ := Prod.mk.inj hu_3009
                        rw [hu_3009a, hu_3009b] at hP hD
                        replace hF := hF.trans (bv_n hfn_3015)
                        replace hFr := fr_tr hFr hfr_3016
                        have tt_3017 := hp_3012
                        have tt_3018 := hp_3013
                        have tt_3019 := hp_3014
                        have tt_3020 : (I_3007 391 this).toInt ≤ 300 := by have z := hg_3010.1.1 391 this; exact z.2
                        have hG := GM.tr hG hg_3010 (by decide)
                        have tt_3021 : (I_3007 396 this).toInt = (I_2973 396 this).toInt := by rw [hg_3010.2.1 396 (by decide) (by decide)]
                        have tt_3022 : (I_3007 398 this).toInt = (I_2973 398 this).toInt := by rw [hg_3010.2.1 398 (by decide) (by decide)]
                        have tt_3023 : (I_3007 401 this).toInt = (I_2973 401 this).toInt := by rw [hg_3010.2.1 401 (by decide) (by decide)]
                        have tt_3024 : (I_3007 402 this).toInt = (I_2973 402 this).toInt := by rw [hg_3010.2.1 402 (by decide) (by decide)]
                        have tt_3025 : (I_3007 397 this).toInt = (I_2973 397 this).toInt := by rw [hg_3010.2.1 397 (by decide) (by decide)]
                        refine lv_goto (tgt := 6) hx hb dX12_either_116 (by decide) ?_
                        exact ih_2609 x_2663 (1 : Int32) (1 : Int32) I_3007 J_3008 ri_2974 _ _ _ (rg_w h_2928 (by decide)) (rg_w (rg_k (1 : Int32) 1 rfl) (by decide)) (rg_w (rg_k (1 : Int32) 1 rfl) (by decide)) (by have zc0 : (0 : Int32).toInt = 0 := rfl; have zc1 : (1 : Int32).toInt = 1 := rfl; exact ⟨fun _ => by rw [show tb + (x_2663).toInt + (1 : Int32).toInt = (tb + 1) from by omega, show K + (x_2663).toInt + (1 : Int32).toInt = K + 1 from by omega]; exact PBz_tok hpbD (by omega) (by omega) (by omega) (by omega) (by omega) (by omega) (by omega) rfl, fun q => absurd q (by decide)⟩) (Int.le_of_lt (Int.lt_of_lt_of_le (tm_lt (by omega) (by omega) (by omega)) htmA)) (by have zc0 : (0 : Int32).toInt = 0 := rfl; have zc1 : (1 : Int32).toInt = 1 := rfl; exact tm_ms2' hm_2606 ⟨Int.le_of_lt (Int.lt_of_lt_of_le (tm_lt (s := (I_2973 391 this).toInt) (k := (I_2973 393 this).toInt) (by omega) (by omega) (by omega)) (tm_lec (hp_2637.resolve_left (fun q => q (by omega))).2 (by omega) (by omega))), Or.inl (Int.lt_of_lt_of_le (tm_lt (s := (I_2973 391 this).toInt) (k := (I_2973 393 this).toInt) (by omega) (by omega) (by omega)) (tm_lec (hp_2637.resolve_left (fun q => q (by omega))).2 (by omega) (by omega)))⟩ (tm_b ((hG.1.1 391 this).2)) (by omega) (by omega)) hF hFr hG hP hD hS (lv_sub hl [5, 3, 1, 0] rfl)
            · replace hF := hF.trans (if_neg c_2649)
              have tc_3026 : (x_1949).toInt ≠ 0 := fun q => c_2649 (Int32.toInt_inj.mp q)
              have h_3027 : rg x_1949 1 1 := rg_ne c_2649 h_2615 0 rfl (by decide)
              have uh_3027 := h_3027.1
              have vh_3027 := h_3027.2
              refine lv_aload_n hx hb dX12_either_28 rfl (lv_at hl 1 rfl) ?_
              refine lv_bipush (v := 21) hx hb dX12_either_29 (by decide) ?_
              refine lv_iconst (v := 0) hx hb dX12_either_31 (by decide) ?_
              have hq1 := PBz_t hpbB
              have hq2 := PBz_w hpbB (Or.inr (by omega))
              refine pk_v (va_runV (As := [.int 21, .int 0]) (rest := []) ⟨hx, hb, hml, hown, hts⟩ (s_X12_emit l D t σ I_2631 J_2632 ri_2633 rj rq H.size tg hSH hG.1 this (21 : Int32) (0 : Int32) hL_this hK_this this_a hR_this_a hL_this_a hK_this_a hN_this_a hT_this_a (by omega) (by omega)) (cwV 2 hts (tw_V tw_905 tw_906 tw_907 tw_5 tw_908) rfl rfl rfl cv_yX12_emit_2 ⟨Nat.le_of_ble_eq_true rfl, Nat.le_of_ble_eq_true rfl⟩) ⟨pq_blind, pq_recv hK hP hL_this hK_this (by decide) rfl, pq_pre hK hN hP hD⟩ rfl rfl hl.1 rfl (lv_room (Nat.le_of_ble_eq_true rfl)) dX12_either_32 ⟨Nat.le_of_ble_eq_true rfl, Nat.le_of_ble_eq_true rfl⟩) hD hS hA (fun σ1 μ1 H locs hw_3029 hP hD hS => ?_)
              obtain ⟨I_3030, ri_3031, hu_3032, hg_3033, hp_3035, hp_3036, hp_3037, hp_3038, hfn_3039, hfr_3040⟩ := hw_3029
              obtain ⟨hu_3032a, hu_3032b⟩ := Prod.mk.inj hu_3032
              rw [hu_3032a, hu_3032b] at hP hD
              replace hF := hF.trans (bv_n hfn_3039)
              replace hFr := fr_tr hFr hfr_3040
              obtain ⟨v_3041, ev_3041, hv_3041⟩ := hp_3035
              have tt_3042 : (I_3030 398 this).toInt = (I_2631 398 this).toInt + 1 := by rw [ev_3041, pq_us]; exact hv_3041
              have tt_3043 : (I_3030 403 this).toInt = (I_2631 403 this).toInt := by rw [ev_3041, pq_uf _ _ _ (by decide)]
              have hG := GM.tr hG hg_3033 (by decide)
              have tt_3044 : (I_3030 396 this).toInt = (I_2631 396 this).toInt := by rw [hg_3033.2.1 396 (by decide) (by decide)]
              have tt_3045 : (I_3030 401 this).toInt = (I_2631 401 this).toInt := by rw [hg_3033.2.1 401 (by decide) (by decide)]
              have tt_3046 : (I_3030 402 this).toInt = (I_2631 402 this).toInt := by rw [hg_3033.2.1 402 (by decide) (by decide)]
              have tt_3047 : (I_3030 391 this).toInt = (I_2631 391 this).toInt := by rw [hg_3033.2.1 391 (by decide) (by decide)]
              have tt_3048 : (I_3030 393 this).toInt = (I_2631 393 this).toInt := by rw [hg_3033.2.1 393 (by decide) (by decide)]
              have tt_3049 : (I_3030 397 this).toInt = (I_2631 397 this).toInt := by rw [hg_3033.2.1 397 (by decide) (by decide)]
              have hpbC : PBz (I_3030 396 this).toInt (I_3030 398 this).toInt (I_3030 402 this).toInt (I_3030 391 this).toInt (I_3030 393 this).toInt (ri_3031 this_a) bb f0 fr va (tb + (x_1950).toInt + 1) nn (K + (x_1950).toInt) := by have zc0 : (0 : Int32).toInt = 0 := rfl; have zc1 : (1 : Int32).toInt = 1 := rfl; have zo : (21 : Int32).toInt = 21 := rfl; exact PBz_em (x := 21) (by rw [show K + (x_1950).toInt + 1 = (K + (x_1949).toInt + (x_1950).toInt) from by omega]; exact hpbB) (by omega) (fun j hj => hp_3036 j (by omega)) (by rw [show (I_2631 396 this).toInt + 250 + 2 * (I_2631 398 this).toInt = (I_2631 396 this).toInt + 250 + 2 * (I_2631 398 this).toInt from by omega]; exact hp_3037) (by omega) (by omega) (by omega) (by omega) (by omega) (by omega)
              refine lv_aload_n hx hb dX12_either_35 rfl (lv_at hl 1 rfl) ?_
              refine lv_bipush (v := 97) hx hb dX12_either_36 (by decide) ?_
              refine lv_bipush (v := 110) hx hb dX12_either_38 (by decide) ?_
              refine lv_bipush (v := 100) hx hb dX12_either_40 (by decide) ?_
              refine pk_l (va_runS (As := [.int 97, .int 110, .int 100]) (rest := [.ref this]) ⟨hx, hb, hml, hown, hts⟩ (s_X12_w3_x l D t σ I_3030 J_2632 ri_3031 rj rq H.size tg hSH hG.1 (97 : Int32) (110 : Int32) (100 : Int32)) (va_cwS 3 hts (tw_S tw_864 tw_865 tw_5 tw_866) rfl rfl rfl cd_yX12_w3_3 ⟨Nat.le_of_ble_eq_true rfl, Nat.le_of_ble_eq_true rfl⟩) ⟨pq_blind, pq_pre hK hN hP hD⟩ rfl rfl hl.1 rfl (lv_room (Nat.le_of_ble_eq_true rfl)) dX12_either_42 ⟨Nat.le_of_ble_eq_true rfl, Nat.le_of_ble_eq_true rfl⟩) hD hS hA (fun x_3050 σ1 μ1 H locs hw_3051 hP hD hS => ?_)
              obtain ⟨hu_3052, hfn_3055⟩ := hw_3051
              obtain ⟨hu_3052a, hu_3052b⟩ := Prod.mk.inj hu_3052
              rw [hu_3052a, hu_3052b] at hP hD
              replace hF := hF.trans (ap_n hfn_3055.symm)
              refine pk_i (va_runV (As := [.long x_3050]) (rest := []) ⟨hx, hb, hml, hown, hts⟩ (s_X12_isWord_x l D t σ I_3030 J_2632 ri_3031 rj rq H.size tg hSH hG.1 this x_3050 hL_this hK_this) (cwV 1 hts (tw_V tw_879 tw_880 tw_881 tw_5 tw_882) rfl rfl rfl cv_yX12_isWord_1 ⟨Nat.le_of_ble_eq_true rfl, Nat.le_of_ble_eq_true rfl⟩) ⟨pq_blind, pq_recv hK hP hL_this hK_this (by decide) rfl, pq_pre hK hN hP hD⟩ rfl rfl hl.1 rfl (lv_room (Nat.le_of_ble_eq_true rfl)) dX12_either_45 ⟨Nat.le_of_ble_eq_true rfl, Nat.le_of_ble_eq_true rfl⟩) hD hS hA (fun x_3057 σ1 μ1 H locs hw_3058 hP hD hS => ?_)
              obtain ⟨hu_3059, hfn_3062, hr_3061⟩ := hw_3058
              obtain ⟨hu_3059a, hu_3059b⟩ := Prod.mk.inj hu_3059
              rw [hu_3059a, hu_3059b] at hP hD
              replace hF := hF.trans (bn_n hfn_3062)
              have h_3064 : rg x_3057 0 1 := by rcases hr_3061 with ⟨q, -⟩ | ⟨q, -⟩ <;> rw [q] <;> exact ⟨by decide, by decide⟩
              have uh_3064 := h_3064.1
              have vh_3064 := h_3064.2
              refine lv_istore_n (lv' := [(1, .int x_3057), (4, .int x_2629), (0, .ref this), (2, .int x_1950), (3, .int x_1951)]) hx hb dX12_either_48 rfl hl (by decide) rfl (fun ls hl => ?_)
              refine lv_aload_n hx hb dX12_either_49 rfl (lv_at hl 2 rfl) ?_
              refine pg_f (v := .int (I_3030 393 this)) (C := RX12) (T := TX12) (N := 31) hx hb hts (tw_i inlX12) hown hK hP hL_this hK_this (by decide) rfl 9 (by decide) (hts _ (tw_c tw_831)) rfl dX12_either_50 ?_
              replace hF := hF.trans (ap_n (vI_e (f := 393) hO_this (by decide)))
              refine lv_iconst (v := 2) hx hb dX12_either_53 (by decide) ?_
              refine lv_icmp_ne (tgt := 72) hx hb dX12_either_54 (by decide) (fun c_3066 => ?_) (fun c_3066 => ?_)
              · replace hF := hF.trans (if_neg c_3066)
                have tc_3070 : (I_3030 393 this).toInt ≠ 2 := fun q => c_3066 (Int32.toInt_inj.mp q)
                refine lv_iconst (v := 0) hx hb dX12_either_72 (by decide) ?_
                refine lv_istore (lv' := [(5, .int 0), (1, .int x_3057), (4, .int x_2629), (0, .ref this), (2, .int x_1950), (3, .int x_1951)]) hx hb dX12_either_73 hl (by decide) rfl (fun ls hl => ?_)
                refine lv_iload_n hx hb dX12_either_75 rfl (lv_at hl 1 rfl) ?_
                refine lv_if_ne (tgt := 93) hx hb dX12_either_76 (by decide) (fun c_3071 => ?_) (fun c_3071 => ?_)
                · replace hF := hF.trans (if_neg c_3071)
                  have f_3078 := (hr_3061.resolve_right (fun q => c_3071 q.1)).2
                  have tc_3079 : (x_3057).toInt ≠ 0 := fun q => c_3071 (Int32.toInt_inj.mp q)
                  have h_3080 : rg x_3057 1 1 := rg_ne c_3071 h_3064 0 rfl (by decide)
                  have uh_3080 := h_3080.1
                  have vh_3080 := h_3080.2
                  refine lv_iload_n hx hb dX12_either_93 rfl (lv_at hl 1 rfl) ?_
                  refine lv_if_ne (tgt := 102) hx hb dX12_either_94 (by decide) (fun c_3081 => ?_) (fun c_3081 => ?_)
                  · have f_3086 := (hr_3061.resolve_right (fun q => c_3081 q.1)).2
                    have tc_3087 : (x_3057).toInt ≠ 0 := fun q => c_3081 (Int32.toInt_inj.mp q)
                    refine lv_iconst (v := 1) hx hb dX12_either_102 (by decide) ?_
                    refine lv_goto (tgt := 107) hx hb dX12_either_103 (by decide) ?_
                    refine lv_istore_n (lv' := [(3, .int 1), (5, .int 0), (1, .int x_3057), (4, .int x_2629), (0, .ref this), (2, .int x_1950)]) hx hb dX12_either_107 rfl hl (by decide) rfl (fun ls hl => ?_)
                    refine lv_iload_n hx hb dX12_either_108 rfl (lv_at hl 0 rfl) ?_
                    refine lv_if_eq (tgt := 116) hx hb dX12_either_109 (by decide) (fun c_3088 => absurd c_3088 (by decide)) (fun c_3088 => ?_)
                    refine lv_aload_n hx hb dX12_either_112 rfl (lv_at hl 4 rfl) ?_
                    obtain ⟨w_3089, hR_w_3089, hL_w_3089, hK_w_3089, hN_w_3089, hT_w_3089⟩ := sh_a hSH 387 (ci := 12) (kd := 13) (len := 300) rfl (by decide) hL_this hK_this
                    have hO_w_3089 : w_3089 = vrow σ 387 this := vo_k (c := 12) hO_this hR_w_3089
                    refine pk_v (va_runV (As := []) (rest := []) ⟨hx, hb, hml, hown, hts⟩ (s_X12_nextToken_x l D t σ I_3030 J_2632 ri_3031 rj rq H.size tg hSH hG.1 this hL_this hK_this w_3089 hR_w_3089 hL_w_3089 hK_w_3089 hN_w_3089 hT_w_3089) (cwV 0 hts (tw_V tw_832 tw_833 tw_834 tw_5 tw_835) rfl rfl rfl cv_yX12_nextToken_0 ⟨Nat.le_of_ble_eq_true rfl, Nat.le_of_ble_eq_true rfl⟩) ⟨pq_blind, pq_recv hK hP hL_this hK_this (by decide) rfl, pq_pre hK hN hP hD⟩ rfl rfl hl.1 rfl (lv_room (Nat.le_of_ble_eq_true rfl)) dX12_either_113 ⟨Nat.le_of_ble_eq_true rfl, Nat.le_of_ble_eq_true rfl⟩) hD hS hA (fun σ1 μ1 H locs hw_3091 hP hD hS => ?_)
                    obtain ⟨I_3092, J_3093, hu_3094, hg_3095, hp_3097, hp_3098, hp_3099, hfn_3100, hfr_3101⟩ := hw_3091
                    obtain ⟨hu_3094a, hu_3094b⟩ := Prod.mk.inj hu_3094
                    rw [hu_3094a, hu_3094b] at hP hD
                    replace hF := hF.trans (bv_n hfn_3100)
                    replace hFr := fr_tr hFr hfr_3101
                    have tt_3102 := hp_3097
                    have tt_3103 := hp_3098
                    have tt_3104 := hp_3099
                    have tt_3105 : (I_3092 391 this).toInt ≤ 300 := by have z := hg_3095.1.1 391 this; exact z.2
                    have hG := GM.tr hG hg_3095 (by decide)
                    have tt_3106 : (I_3092 396 this).toInt = (I_3030 396 this).toInt := by rw [hg_3095.2.1 396 (by decide) (by decide)]
                    have tt_3107 : (I_3092 398 this).toInt = (I_3030 398 this).toInt := by rw [hg_3095.2.1 398 (by decide) (by decide)]
                    have tt_3108 : (I_3092 401 this).toInt = (I_3030 401 this).toInt := by rw [hg_3095.2.1 401 (by decide) (by decide)]
                    have tt_3109 : (I_3092 402 this).toInt = (I_3030 402 this).toInt := by rw [hg_3095.2.1 402 (by decide) (by decide)]
                    have tt_3110 : (I_3092 397 this).toInt = (I_3030 397 this).toInt := by rw [hg_3095.2.1 397 (by decide) (by decide)]
                    refine lv_goto (tgt := 6) hx hb dX12_either_116 (by decide) ?_
                    exact ih_2609 x_3057 x_1950 (1 : Int32) I_3092 J_3093 ri_3031 _ _ _ (rg_w h_3080 (by decide)) (rg_w h_2616 (by decide)) (rg_w (rg_k (1 : Int32) 1 rfl) (by decide)) (by have zc0 : (0 : Int32).toInt = 0 := rfl; have zc1 : (1 : Int32).toInt = 1 := rfl; exact ⟨fun _ => by rw [show tb + (x_3057).toInt + (x_1950).toInt = (tb + (x_1950).toInt + 1) from by omega, show K + (x_3057).toInt + (x_1950).toInt = (K + (x_1950).toInt) + 1 from by omega]; exact PBz_tok hpbC (by omega) (by omega) (by omega) (by omega) (by omega) (by omega) (by omega) rfl, fun q => absurd q (by decide)⟩) (Int.le_of_lt (Int.lt_of_lt_of_le (tm_lt (by omega) (by omega) (by omega)) htmA)) (by have zc0 : (0 : Int32).toInt = 0 := rfl; have zc1 : (1 : Int32).toInt = 1 := rfl; exact tm_ms2' hm_2606 ⟨Int.le_of_lt (Int.lt_of_lt_of_le (tm_lt (s := (I_3030 391 this).toInt) (k := (I_3030 393 this).toInt) (by omega) (by omega) (by omega)) (tm_lec (hp_2637.resolve_left (fun q => q (by omega))).2 (by omega) (by omega))), Or.inl (Int.lt_of_lt_of_le (tm_lt (s := (I_3030 391 this).toInt) (k := (I_3030 393 this).toInt) (by omega) (by omega) (by omega)) (tm_lec (hp_2637.resolve_left (fun q => q (by omega))).2 (by omega) (by omega)))⟩ (tm_b ((hG.1.1 391 this).2)) (by omega) (by omega)) hF hFr hG hP hD hS (lv_sub hl [4, 2, 5, 0] rfl)
                  · have f_3111 := (hr_3061.resolve_left (fun q => absurd (q.1.symm.trans c_3081) (by decide))).2
                    have tc_3112 : (x_3057).toInt = 0 := congrArg Int32.toInt c_3081
                    exact (rg_empty (rg_and h_3080 (rg_of_eq c_3081 (rg_k (0 : Int32) 0 rfl)) (lo := 1) (hi := 0) (by decide)) (by decide)).elim
                · replace hF := hF.trans (if_pos c_3071)
                  have f_3113 := (hr_3061.resolve_left (fun q => absurd (q.1.symm.trans c_3071) (by decide))).2
                  have tc_3114 : (x_3057).toInt = 0 := congrArg Int32.toInt c_3071
                  have h_3115 : rg x_3057 0 0 := rg_and h_3064 (rg_of_eq c_3071 (rg_k (0 : Int32) 0 rfl)) (by decide)
                  have uh_3115 := h_3115.1
                  have vh_3115 := h_3115.2
                  refine lv_iload_n hx hb dX12_either_79 rfl (lv_at hl 4 rfl) ?_
                  refine lv_if_eq (tgt := 90) hx hb dX12_either_80 (by decide) (fun c_3116 => ?_) (fun c_3116 => ?_)
                  · replace hF := hF.trans (if_pos c_3116)
                    have tc_3121 : (x_1950).toInt = 0 := congrArg Int32.toInt c_3116
                    have h_3122 : rg x_1950 0 0 := rg_and h_2616 (rg_of_eq c_3116 (rg_k (0 : Int32) 0 rfl)) (by decide)
                    have uh_3122 := h_3122.1
                    have vh_3122 := h_3122.2
                    have hpbD : PBz (I_3030 396 this).toInt (I_3030 398 this).toInt (I_3030 402 this).toInt (I_3030 391 this).toInt (I_3030 393 this).toInt (ri_3031 this_a) bb f0 fr va (tb + 1) nn K := by have q := hpbC; rw [show (tb + (x_1950).toInt + 1) = tb + 1 from by omega, show (K + (x_1950).toInt) = K from by omega] at q; exact q
                    refine lv_iload hx hb dX12_either_90 (lv_at hl 0 rfl) ?_
                    refine lv_istore_n (lv' := [(2, .int 0), (5, .int 0), (1, .int x_3057), (4, .int x_2629), (0, .ref this), (3, .int x_1951)]) hx hb dX12_either_92 rfl hl (by decide) rfl (fun ls hl => ?_)
                    refine lv_iload_n hx hb dX12_either_93 rfl (lv_at hl 2 rfl) ?_
                    refine lv_if_ne (tgt := 102) hx hb dX12_either_94 (by decide) (fun c_3123 => ?_) (fun c_3123 => ?_)
                    · have f_3128 := (hr_3061.resolve_right (fun q => c_3123 q.1)).2
                      have tc_3129 : (x_3057).toInt ≠ 0 := fun q => c_3123 (Int32.toInt_inj.mp q)
                      exact (rg_empty (rg_ne c_3123 h_3115 0 rfl (lo := 1) (hi := (-1)) (by decide)) (by decide)).elim
                    · have f_3130 := (hr_3061.resolve_left (fun q => absurd (q.1.symm.trans c_3123) (by decide))).2
                      have tc_3131 : (x_3057).toInt = 0 := congrArg Int32.toInt c_3123
                      refine lv_iload hx hb dX12_either_97 (lv_at hl 1 rfl) ?_
                      refine lv_if_eq (tgt := 106) hx hb dX12_either_99 (by decide) (fun c_3132 => ?_) (fun c_3132 => absurd c_3132 (by decide))
                      refine lv_iconst (v := 0) hx hb dX12_either_106 (by decide) ?_
                      refine lv_istore_n (lv' := [(3, .int 0), (2, .int 0), (5, .int 0), (1, .int x_3057), (4, .int x_2629), (0, .ref this)]) hx hb dX12_either_107 rfl hl (by decide) rfl (fun ls hl => ?_)
                      refine lv_iload_n hx hb dX12_either_108 rfl (lv_at hl 0 rfl) ?_
                      refine lv_if_eq (tgt := 116) hx hb dX12_either_109 (by decide) (fun c_3133 => ?_) (fun c_3133 => absurd c_3133 (by decide))
                      refine lv_goto (tgt := 6) hx hb dX12_either_116 (by decide) ?_
                      exact ih_2609 x_3057 (0 : Int32) (0 : Int32) I_3030 J_2632 ri_3031 _ _ _ (rg_w h_3115 (by decide)) (rg_w (rg_k (0 : Int32) 0 rfl) (by decide)) (rg_w (rg_k (0 : Int32) 0 rfl) (by decide)) (by have zc0 : (0 : Int32).toInt = 0 := rfl; have zc1 : (1 : Int32).toInt = 1 := rfl; exact ⟨fun q => absurd q (by decide), fun _ => PBz_cg hpbD (by omega) (by omega) (by omega) (by omega) (by omega) rfl⟩) (tm_lec htmA (by omega) (by omega)) (by have zc0 : (0 : Int32).toInt = 0 := rfl; have zc1 : (1 : Int32).toInt = 1 := rfl; exact tm_ms2' hm_2606 ⟨tm_lec (hp_2637.resolve_left (fun q => q (by omega))).2 (by omega) (by omega), Or.inr (by omega)⟩ (tm_b ((hG.1.1 391 this).2)) (by omega) (by omega)) hF hFr hG hP hD hS (lv_sub hl [5, 3, 1, 0] rfl)
                  · replace hF := hF.trans (if_neg c_3116)
                    have tc_3134 : (x_1950).toInt ≠ 0 := fun q => c_3116 (Int32.toInt_inj.mp q)
                    have h_3135 : rg x_1950 1 1 := rg_ne c_3116 h_2616 0 rfl (by decide)
                    have uh_3135 := h_3135.1
                    have vh_3135 := h_3135.2
                    refine lv_aload_n hx hb dX12_either_83 rfl (lv_at hl 3 rfl) ?_
                    refine lv_bipush (v := 22) hx hb dX12_either_84 (by decide) ?_
                    refine lv_iconst (v := 0) hx hb dX12_either_86 (by decide) ?_
                    have hq1 := PBz_t hpbC
                    have hq2 := PBz_w hpbC (Or.inr (by omega))
                    refine pk_v (va_runV (As := [.int 22, .int 0]) (rest := []) ⟨hx, hb, hml, hown, hts⟩ (s_X12_emit l D t σ I_3030 J_2632 ri_3031 rj rq H.size tg hSH hG.1 this (22 : Int32) (0 : Int32) hL_this hK_this this_a hR_this_a hL_this_a hK_this_a hN_this_a hT_this_a (by omega) (by omega)) (cwV 2 hts (tw_V tw_905 tw_906 tw_907 tw_5 tw_908) rfl rfl rfl cv_yX12_emit_2 ⟨Nat.le_of_ble_eq_true rfl, Nat.le_of_ble_eq_true rfl⟩) ⟨pq_blind, pq_recv hK hP hL_this hK_this (by decide) rfl, pq_pre hK hN hP hD⟩ rfl rfl hl.1 rfl (lv_room (Nat.le_of_ble_eq_true rfl)) dX12_either_87 ⟨Nat.le_of_ble_eq_true rfl, Nat.le_of_ble_eq_true rfl⟩) hD hS hA (fun σ1 μ1 H locs hw_3137 hP hD hS => ?_)
                    obtain ⟨I_3138, ri_3139, hu_3140, hg_3141, hp_3143, hp_3144, hp_3145, hp_3146, hfn_3147, hfr_3148⟩ := hw_3137
                    obtain ⟨hu_3140a, hu_3140b⟩ := Prod.mk.inj hu_3140
                    rw [hu_3140a, hu_3140b] at hP hD
                    replace hF := hF.trans (bv_n hfn_3147)
                    replace hFr := fr_tr hFr hfr_3148
                    obtain ⟨v_3149, ev_3149, hv_3149⟩ := hp_3143
                    have tt_3150 : (I_3138 398 this).toInt = (I_3030 398 this).toInt + 1 := by rw [ev_3149, pq_us]; exact hv_3149
                    have tt_3151 : (I_3138 403 this).toInt = (I_3030 403 this).toInt := by rw [ev_3149, pq_uf _ _ _ (by decide)]
                    have hG := GM.tr hG hg_3141 (by decide)
                    have tt_3152 : (I_3138 396 this).toInt = (I_3030 396 this).toInt := by rw [hg_3141.2.1 396 (by decide) (by decide)]
                    have tt_3153 : (I_3138 401 this).toInt = (I_3030 401 this).toInt := by rw [hg_3141.2.1 401 (by decide) (by decide)]
                    have tt_3154 : (I_3138 402 this).toInt = (I_3030 402 this).toInt := by rw [hg_3141.2.1 402 (by decide) (by decide)]
                    have tt_3155 : (I_3138 391 this).toInt = (I_3030 391 this).toInt := by rw [hg_3141.2.1 391 (by decide) (by decide)]
                    have tt_3156 : (I_3138 393 this).toInt = (I_3030 393 this).toInt := by rw [hg_3141.2.1 393 (by decide) (by decide)]
                    have tt_3157 : (I_3138 397 this).toInt = (I_3030 397 this).toInt := by rw [hg_3141.2.1 397 (by decide) (by decide)]
                    have hpbD : PBz (I_3138 396 this).toInt (I_3138 398 this).toInt (I_3138 402 this).toInt (I_3138 391 this).toInt (I_3138 393 this).toInt (ri_3139 this_a) bb f0 fr va (tb + 1) nn K := by have zc0 : (0 : Int32).toInt = 0 := rfl; have zc1 : (1 : Int32).toInt = 1 := rfl; have zo : (22 : Int32).toInt = 22 := rfl; exact PBz_em (x := 22) (by rw [show K + 1 = (K + (x_1950).toInt) from by omega]; exact hpbC) (by omega) (fun j hj => hp_3144 j (by omega)) (by rw [show (I_3030 396 this).toInt + 250 + 2 * (I_3030 398 this).toInt = (I_3030 396 this).toInt + 250 + 2 * (I_3030 398 this).toInt from by omega]; exact hp_3145) (by omega) (by omega) (by omega) (by omega) (by omega) (by omega)
                    refine lv_iload hx hb dX12_either_90 (lv_at hl 0 rfl) ?_
                    refine lv_istore_n (lv' := [(2, .int 0), (5, .int 0), (1, .int x_3057), (4, .int x_2629), (0, .ref this), (3, .int x_1951)]) hx hb dX12_either_92 rfl hl (by decide) rfl (fun ls hl => ?_)
                    refine lv_iload_n hx hb dX12_either_93 rfl (lv_at hl 2 rfl) ?_
                    refine lv_if_ne (tgt := 102) hx hb dX12_either_94 (by decide) (fun c_3158 => ?_) (fun c_3158 => ?_)
                    · have f_3163 := (hr_3061.resolve_right (fun q => c_3158 q.1)).2
                      have tc_3164 : (x_3057).toInt ≠ 0 := fun q => c_3158 (Int32.toInt_inj.mp q)
                      exact (rg_empty (rg_ne c_3158 h_3115 0 rfl (lo := 1) (hi := (-1)) (by decide)) (by decide)).elim
                    · have f_3165 := (hr_3061.resolve_left (fun q => absurd (q.1.symm.trans c_3158) (by decide))).2
                      have tc_3166 : (x_3057).toInt = 0 := congrArg Int32.toInt c_3158
                      refine lv_iload hx hb dX12_either_97 (lv_at hl 1 rfl) ?_
                      refine lv_if_eq (tgt := 106) hx hb dX12_either_99 (by decide) (fun c_3167 => ?_) (fun c_3167 => absurd c_3167 (by decide))
                      refine lv_iconst (v := 0) hx hb dX12_either_106 (by decide) ?_
                      refine lv_istore_n (lv' := [(3, .int 0), (2, .int 0), (5, .int 0), (1, .int x_3057), (4, .int x_2629), (0, .ref this)]) hx hb dX12_either_107 rfl hl (by decide) rfl (fun ls hl => ?_)
                      refine lv_iload_n hx hb dX12_either_108 rfl (lv_at hl 0 rfl) ?_
                      refine lv_if_eq (tgt := 116) hx hb dX12_either_109 (by decide) (fun c_3168 => ?_) (fun c_3168 => absurd c_3168 (by decide))
                      refine lv_goto (tgt := 6) hx hb dX12_either_116 (by decide) ?_
                      exact ih_2609 x_3057 (0 : Int32) (0 : Int32) I_3138 J_2632 ri_3139 _ _ _ (rg_w h_3115 (by decide)) (rg_w (rg_k (0 : Int32) 0 rfl) (by decide)) (rg_w (rg_k (0 : Int32) 0 rfl) (by decide)) (by have zc0 : (0 : Int32).toInt = 0 := rfl; have zc1 : (1 : Int32).toInt = 1 := rfl; exact ⟨fun q => absurd q (by decide), fun _ => PBz_cg hpbD (by omega) (by omega) (by omega) (by omega) (by omega) rfl⟩) (tm_lec htmA (by omega) (by omega)) (by have zc0 : (0 : Int32).toInt = 0 := rfl; have zc1 : (1 : Int32).toInt = 1 := rfl; exact tm_ms2' hm_2606 ⟨tm_lec (hp_2637.resolve_left (fun q => q (by omega))).2 (by omega) (by omega), Or.inr (by omega)⟩ (tm_b ((hG.1.1 391 this).2)) (by omega) (by omega)) hF hFr hG hP hD hS (lv_sub hl [5, 3, 1, 0] rfl)
              · replace hF := hF.trans (if_pos c_3066)
                have tc_3169 : (I_3030 393 this).toInt = 2 := congrArg Int32.toInt c_3066
                have h_3170 : rg (I_3030 393 this) 2 2 := rg_and (rg_full _) (rg_of_eq c_3066 (rg_k (2 : Int32) 2 rfl)) (by decide)
                have uh_3170 := h_3170.1
                have vh_3170 := h_3170.2
                refine lv_aload_n hx hb dX12_either_57 rfl (lv_at hl 2 rfl) ?_
                refine pg_f (v := .long (J_2632 395 this)) (C := RX12) (T := TX12) (N := 31) hx hb hts (tw_i inlX12) hown hK hP hL_this hK_this (by decide) rfl 11 (by decide) (hts _ (tw_c tw_838)) rfl dX12_either_58 ?_
                replace hF := hF.trans (ap_n (vJ_e (f := 395) hO_this (by decide)))
                refine lv_ldc2 hx hb hown (hts _ (tw_c tw_874)) dX12_either_61 ?_
                refine W.lcmp hx hb dX12_either_64 ?_
                refine lv_topi (fun x_3172 ex_3172 => ?_)
                replace hF := hF.trans (ap_n ex_3172)
                refine lv_if_ne (tgt := 72) hx hb dX12_either_65 (by decide) (fun c_3173 => ?_) (fun c_3173 => ?_)
                · replace hF := hF.trans (if_neg c_3173)
                  have tc_3177 : (x_3172).toInt ≠ 0 := fun q => c_3173 (Int32.toInt_inj.mp q)
                  refine lv_iconst (v := 0) hx hb dX12_either_72 (by decide) ?_
                  refine lv_istore (lv' := [(5, .int 0), (1, .int x_3057), (4, .int x_2629), (0, .ref this), (2, .int x_1950), (3, .int x_1951)]) hx hb dX12_either_73 hl (by decide) rfl (fun ls hl => ?_)
                  refine lv_iload_n hx hb dX12_either_75 rfl (lv_at hl 1 rfl) ?_
                  refine lv_if_ne (tgt := 93) hx hb dX12_either_76 (by decide) (fun c_3178 => ?_) (fun c_3178 => ?_)
                  · replace hF := hF.trans (if_neg c_3178)
                    have f_3185 := (hr_3061.resolve_right (fun q => c_3178 q.1)).2
                    have tc_3186 : (x_3057).toInt ≠ 0 := fun q => c_3178 (Int32.toInt_inj.mp q)
                    have h_3187 : rg x_3057 1 1 := rg_ne c_3178 h_3064 0 rfl (by decide)
                    have uh_3187 := h_3187.1
                    have vh_3187 := h_3187.2
                    refine lv_iload_n hx hb dX12_either_93 rfl (lv_at hl 1 rfl) ?_
                    refine lv_if_ne (tgt := 102) hx hb dX12_either_94 (by decide) (fun c_3188 => ?_) (fun c_3188 => ?_)
                    · have f_3193 := (hr_3061.resolve_right (fun q => c_3188 q.1)).2
                      have tc_3194 : (x_3057).toInt ≠ 0 := fun q => c_3188 (Int32.toInt_inj.mp q)
                      refine lv_iconst (v := 1) hx hb dX12_either_102 (by decide) ?_
                      refine lv_goto (tgt := 107) hx hb dX12_either_103 (by decide) ?_
                      refine lv_istore_n (lv' := [(3, .int 1), (5, .int 0), (1, .int x_3057), (4, .int x_2629), (0, .ref this), (2, .int x_1950)]) hx hb dX12_either_107 rfl hl (by decide) rfl (fun ls hl => ?_)
                      refine lv_iload_n hx hb dX12_either_108 rfl (lv_at hl 0 rfl) ?_
                      refine lv_if_eq (tgt := 116) hx hb dX12_either_109 (by decide) (fun c_3195 => absurd c_3195 (by decide)) (fun c_3195 => ?_)
                      refine lv_aload_n hx hb dX12_either_112 rfl (lv_at hl 4 rfl) ?_
                      obtain ⟨w_3196, hR_w_3196, hL_w_3196, hK_w_3196, hN_w_3196, hT_w_3196⟩ := sh_a hSH 387 (ci := 12) (kd := 13) (len := 300) rfl (by decide) hL_this hK_this
                      have hO_w_3196 : w_3196 = vrow σ 387 this := vo_k (c := 12) hO_this hR_w_3196
                      refine pk_v (va_runV (As := []) (rest := []) ⟨hx, hb, hml, hown, hts⟩ (s_X12_nextToken_x l D t σ I_3030 J_2632 ri_3031 rj rq H.size tg hSH hG.1 this hL_this hK_this w_3196 hR_w_3196 hL_w_3196 hK_w_3196 hN_w_3196 hT_w_3196) (cwV 0 hts (tw_V tw_832 tw_833 tw_834 tw_5 tw_835) rfl rfl rfl cv_yX12_nextToken_0 ⟨Nat.le_of_ble_eq_true rfl, Nat.le_of_ble_eq_true rfl⟩) ⟨pq_blind, pq_recv hK hP hL_this hK_this (by decide) rfl, pq_pre hK hN hP hD⟩ rfl rfl hl.1 rfl (lv_room (Nat.le_of_ble_eq_true rfl)) dX12_either_113 ⟨Nat.le_of_ble_eq_true rfl, Nat.le_of_ble_eq_true rfl⟩) hD hS hA (fun σ1 μ1 H locs hw_3198 hP hD hS => ?_)
                      obtain ⟨I_3199, J_3200, hu_3201, hg_3202, hp_3204, hp_3205, hp_3206, hfn_3207, hfr_3208⟩ := hw_3198
                      obtain ⟨hu_3201a, hu_3201b⟩ := Prod.mk.inj hu_3201
                      rw [hu_3201a, hu_3201b] at hP hD
                      replace hF := hF.trans (bv_n hfn_3207)
                      replace hFr := fr_tr hFr hfr_3208
                      have tt_3209 := hp_3204
                      have tt_3210 := hp_3205
                      have tt_3211 := hp_3206
                      have tt_3212 : (I_3199 391 this).toInt ≤ 300 := by have z := hg_3202.1.1 391 this; exact z.2
                      have hG := GM.tr hG hg_3202 (by decide)
                      have tt_3213 : (I_3199 396 this).toInt = (I_3030 396 this).toInt := by rw [hg_3202.2.1 396 (by decide) (by decide)]
                      have tt_3214 : (I_3199 398 this).toInt = (I_3030 398 this).toInt := by rw [hg_3202.2.1 398 (by decide) (by decide)]
                      have tt_3215 : (I_3199 401 this).toInt = (I_3030 401 this).toInt := by rw [hg_3202.2.1 401 (by decide) (by decide)]
                      have tt_3216 : (I_3199 402 this).toInt = (I_3030 402 this).toInt := by rw [hg_3202.2.1 402 (by decide) (by decide)]
                      have tt_3217 : (I_3199 397 this).toInt = (I_3030 397 this).toInt := by rw [hg_3202.2.1 397 (by decide) (by decide)]
                      refine lv_goto (tgt := 6) hx hb dX12_either_116 (by decide) ?_
                      exact ih_2609 x_3057 x_1950 (1 : Int32) I_3199 J_3200 ri_3031 _ _ _ (rg_w h_3187 (by decide)) (rg_w h_2616 (by decide)) (rg_w (rg_k (1 : Int32) 1 rfl) (by decide)) (by have zc0 : (0 : Int32).toInt = 0 := rfl; have zc1 : (1 : Int32).toInt = 1 := rfl; exact ⟨fun _ => by rw [show tb + (x_3057).toInt + (x_1950).toInt = (tb + (x_1950).toInt + 1) from by omega, show K + (x_3057).toInt + (x_1950).toInt = (K + (x_1950).toInt) + 1 from by omega]; exact PBz_tok hpbC (by omega) (by omega) (by omega) (by omega) (by omega) (by omega) (by omega) rfl, fun q => absurd q (by decide)⟩) (Int.le_of_lt (Int.lt_of_lt_of_le (tm_lt (by omega) (by omega) (by omega)) htmA)) (by have zc0 : (0 : Int32).toInt = 0 := rfl; have zc1 : (1 : Int32).toInt = 1 := rfl; exact tm_ms2' hm_2606 ⟨Int.le_of_lt (Int.lt_of_lt_of_le (tm_lt (s := (I_3030 391 this).toInt) (k := (I_3030 393 this).toInt) (by omega) (by omega) (by omega)) (tm_lec (hp_2637.resolve_left (fun q => q (by omega))).2 (by omega) (by omega))), Or.inl (Int.lt_of_lt_of_le (tm_lt (s := (I_3030 391 this).toInt) (k := (I_3030 393 this).toInt) (by omega) (by omega) (by omega)) (tm_lec (hp_2637.resolve_left (fun q => q (by omega))).2 (by omega) (by omega)))⟩ (tm_b ((hG.1.1 391 this).2)) (by omega) (by omega)) hF hFr hG hP hD hS (lv_sub hl [4, 2, 5, 0] rfl)
                    · have f_3218 := (hr_3061.resolve_left (fun q => absurd (q.1.symm.trans c_3188) (by decide))).2
                      have tc_3219 : (x_3057).toInt = 0 := congrArg Int32.toInt c_3188
                      exact (rg_empty (rg_and h_3187 (rg_of_eq c_3188 (rg_k (0 : Int32) 0 rfl)) (lo := 1) (hi := 0) (by decide)) (by decide)).elim
                  · replace hF := hF.trans (if_pos c_3178)
                    have f_3220 := (hr_3061.resolve_left (fun q => absurd (q.1.symm.trans c_3178) (by decide))).2
                    have tc_3221 : (x_3057).toInt = 0 := congrArg Int32.toInt c_3178
                    have h_3222 : rg x_3057 0 0 := rg_and h_3064 (rg_of_eq c_3178 (rg_k (0 : Int32) 0 rfl)) (by decide)
                    have uh_3222 := h_3222.1
                    have vh_3222 := h_3222.2
                    refine lv_iload_n hx hb dX12_either_79 rfl (lv_at hl 4 rfl) ?_
                    refine lv_if_eq (tgt := 90) hx hb dX12_either_80 (by decide) (fun c_3223 => ?_) (fun c_3223 => ?_)
                    · replace hF := hF.trans (if_pos c_3223)
                      have tc_3228 : (x_1950).toInt = 0 := congrArg Int32.toInt c_3223
                      have h_3229 : rg x_1950 0 0 := rg_and h_2616 (rg_of_eq c_3223 (rg_k (0 : Int32) 0 rfl)) (by decide)
                      have uh_3229 := h_3229.1
                      have vh_3229 := h_3229.2
                      have hpbD : PBz (I_3030 396 this).toInt (I_3030 398 this).toInt (I_3030 402 this).toInt (I_3030 391 this).toInt (I_3030 393 this).toInt (ri_3031 this_a) bb f0 fr va (tb + 1) nn K := by have q := hpbC; rw [show (tb + (x_1950).toInt + 1) = tb + 1 from by omega, show (K + (x_1950).toInt) = K from by omega] at q; exact q
                      refine lv_iload hx hb dX12_either_90 (lv_at hl 0 rfl) ?_
                      refine lv_istore_n (lv' := [(2, .int 0), (5, .int 0), (1, .int x_3057), (4, .int x_2629), (0, .ref this), (3, .int x_1951)]) hx hb dX12_either_92 rfl hl (by decide) rfl (fun ls hl => ?_)
                      refine lv_iload_n hx hb dX12_either_93 rfl (lv_at hl 2 rfl) ?_
                      refine lv_if_ne (tgt := 102) hx hb dX12_either_94 (by decide) (fun c_3230 => ?_) (fun c_3230 => ?_)
                      · have f_3235 := (hr_3061.resolve_right (fun q => c_3230 q.1)).2
                        have tc_3236 : (x_3057).toInt ≠ 0 := fun q => c_3230 (Int32.toInt_inj.mp q)
                        exact (rg_empty (rg_ne c_3230 h_3222 0 rfl (lo := 1) (hi := (-1)) (by decide)) (by decide)).elim
                      · have f_3237 := (hr_3061.resolve_left (fun q => absurd (q.1.symm.trans c_3230) (by decide))).2
                        have tc_3238 : (x_3057).toInt = 0 := congrArg Int32.toInt c_3230
                        refine lv_iload hx hb dX12_either_97 (lv_at hl 1 rfl) ?_
                        refine lv_if_eq (tgt := 106) hx hb dX12_either_99 (by decide) (fun c_3239 => ?_) (fun c_3239 => absurd c_3239 (by decide))
                        refine lv_iconst (v := 0) hx hb dX12_either_106 (by decide) ?_
                        refine lv_istore_n (lv' := [(3, .int 0), (2, .int 0), (5, .int 0), (1, .int x_3057), (4, .int x_2629), (0, .ref this)]) hx hb dX12_either_107 rfl hl (by decide) rfl (fun ls hl => ?_)
                        refine lv_iload_n hx hb dX12_either_108 rfl (lv_at hl 0 rfl) ?_
                        refine lv_if_eq (tgt := 116) hx hb dX12_either_109 (by decide) (fun c_3240 => ?_) (fun c_3240 => absurd c_3240 (by decide))
                        refine lv_goto (tgt := 6) hx hb dX12_either_116 (by decide) ?_
                        exact ih_2609 x_3057 (0 : Int32) (0 : Int32) I_3030 J_2632 ri_3031 _ _ _ (rg_w h_3222 (by decide)) (rg_w (rg_k (0 : Int32) 0 rfl) (by decide)) (rg_w (rg_k (0 : Int32) 0 rfl) (by decide)) (by have zc0 : (0 : Int32).toInt = 0 := rfl; have zc1 : (1 : Int32).toInt = 1 := rfl; exact ⟨fun q => absurd q (by decide), fun _ => PBz_cg hpbD (by omega) (by omega) (by omega) (by omega) (by omega) rfl⟩) (tm_lec htmA (by omega) (by omega)) (by have zc0 : (0 : Int32).toInt = 0 := rfl; have zc1 : (1 : Int32).toInt = 1 := rfl; exact tm_ms2' hm_2606 ⟨tm_lec (hp_2637.resolve_left (fun q => q (by omega))).2 (by omega) (by omega), Or.inr (by omega)⟩ (tm_b ((hG.1.1 391 this).2)) (by omega) (by omega)) hF hFr hG hP hD hS (lv_sub hl [5, 3, 1, 0] rfl)
                    · replace hF := hF.trans (if_neg c_3223)
                      have tc_3241 : (x_1950).toInt ≠ 0 := fun q => c_3223 (Int32.toInt_inj.mp q)
                      have h_3242 : rg x_1950 1 1 := rg_ne c_3223 h_2616 0 rfl (by decide)
                      have uh_3242 := h_3242.1
                      have vh_3242 := h_3242.2
                      refine lv_aload_n hx hb dX12_either_83 rfl (lv_at hl 3 rfl) ?_
                      refine lv_bipush (v := 22) hx hb dX12_either_84 (by decide) ?_
                      refine lv_iconst (v := 0) hx hb dX12_either_86 (by decide) ?_
                      have hq1 := PBz_t hpbC
                      have hq2 := PBz_w hpbC (Or.inr (by omega))
                      refine pk_v (va_runV (As := [.int 22, .int 0]) (rest := []) ⟨hx, hb, hml, hown, hts⟩ (s_X12_emit l D t σ I_3030 J_2632 ri_3031 rj rq H.size tg hSH hG.1 this (22 : Int32) (0 : Int32) hL_this hK_this this_a hR_this_a hL_this_a hK_this_a hN_this_a hT_this_a (by omega) (by omega)) (cwV 2 hts (tw_V tw_905 tw_906 tw_907 tw_5 tw_908) rfl rfl rfl cv_yX12_emit_2 ⟨Nat.le_of_ble_eq_true rfl, Nat.le_of_ble_eq_true rfl⟩) ⟨pq_blind, pq_recv hK hP hL_this hK_this (by decide) rfl, pq_pre hK hN hP hD⟩ rfl rfl hl.1 rfl (lv_room (Nat.le_of_ble_eq_true rfl)) dX12_either_87 ⟨Nat.le_of_ble_eq_true rfl, Nat.le_of_ble_eq_true rfl⟩) hD hS hA (fun σ1 μ1 H locs hw_3244 hP hD hS => ?_)
                      obtain ⟨I_3245, ri_3246, hu_3247, hg_3248, hp_3250, hp_3251, hp_3252, hp_3253, hfn_3254, hfr_3255⟩ := hw_3244
                      obtain ⟨hu_3247a, hu_3247b⟩ := Prod.mk.inj hu_3247
                      rw [hu_3247a, hu_3247b] at hP hD
                      replace hF := hF.trans (bv_n hfn_3254)
                      replace hFr := fr_tr hFr hfr_3255
                      obtain ⟨v_3256, ev_3256, hv_3256⟩ := hp_3250
                      have tt_3257 : (I_3245 398 this).toInt = (I_3030 398 this).toInt + 1 := by rw [ev_3256, pq_us]; exact hv_3256
                      have tt_3258 : (I_3245 403 this).toInt = (I_3030 403 this).toInt := by rw [ev_3256, pq_uf _ _ _ (by decide)]
                      have hG := GM.tr hG hg_3248 (by decide)
                      have tt_3259 : (I_3245 396 this).toInt = (I_3030 396 this).toInt := by rw [hg_3248.2.1 396 (by decide) (by decide)]
                      have tt_3260 : (I_3245 401 this).toInt = (I_3030 401 this).toInt := by rw [hg_3248.2.1 401 (by decide) (by decide)]
                      have tt_3261 : (I_3245 402 this).toInt = (I_3030 402 this).toInt := by rw [hg_3248.2.1 402 (by decide) (by decide)]
                      have tt_3262 : (I_3245 391 this).toInt = (I_3030 391 this).toInt := by rw [hg_3248.2.1 391 (by decide) (by decide)]
                      have tt_3263 : (I_3245 393 this).toInt = (I_3030 393 this).toInt := by rw [hg_3248.2.1 393 (by decide) (by decide)]
                      have tt_3264 : (I_3245 397 this).toInt = (I_3030 397 this).toInt := by rw [hg_3248.2.1 397 (by decide) (by decide)]
                      have hpbD : PBz (I_3245 396 this).toInt (I_3245 398 this).toInt (I_3245 402 this).toInt (I_3245 391 this).toInt (I_3245 393 this).toInt (ri_3246 this_a) bb f0 fr va (tb + 1) nn K := by have zc0 : (0 : Int32).toInt = 0 := rfl; have zc1 : (1 : Int32).toInt = 1 := rfl; have zo : (22 : Int32).toInt = 22 := rfl; exact PBz_em (x := 22) (by rw [show K + 1 = (K + (x_1950).toInt) from by omega]; exact hpbC) (by omega) (fun j hj => hp_3251 j (by omega)) (by rw [show (I_3030 396 this).toInt + 250 + 2 * (I_3030 398 this).toInt = (I_3030 396 this).toInt + 250 + 2 * (I_3030 398 this).toInt from by omega]; exact hp_3252) (by omega) (by omega) (by omega) (by omega) (by omega) (by omega)
                      refine lv_iload hx hb dX12_either_90 (lv_at hl 0 rfl) ?_
                      refine lv_istore_n (lv' := [(2, .int 0), (5, .int 0), (1, .int x_3057), (4, .int x_2629), (0, .ref this), (3, .int x_1951)]) hx hb dX12_either_92 rfl hl (by decide) rfl (fun ls hl => ?_)
                      refine lv_iload_n hx hb dX12_either_93 rfl (lv_at hl 2 rfl) ?_
                      refine lv_if_ne (tgt := 102) hx hb dX12_either_94 (by decide) (fun c_3265 => ?_) (fun c_3265 => ?_)
                      · have f_3270 := (hr_3061.resolve_right (fun q => c_3265 q.1)).2
                        have tc_3271 : (x_3057).toInt ≠ 0 := fun q => c_3265 (Int32.toInt_inj.mp q)
                        exact (rg_empty (rg_ne c_3265 h_3222 0 rfl (lo := 1) (hi := (-1)) (by decide)) (by decide)).elim
                      · have f_3272 := (hr_3061.resolve_left (fun q => absurd (q.1.symm.trans c_3265) (by decide))).2
                        have tc_3273 : (x_3057).toInt = 0 := congrArg Int32.toInt c_3265
                        refine lv_iload hx hb dX12_either_97 (lv_at hl 1 rfl) ?_
                        refine lv_if_eq (tgt := 106) hx hb dX12_either_99 (by decide) (fun c_3274 => ?_) (fun c_3274 => absurd c_3274 (by decide))
                        refine lv_iconst (v := 0) hx hb dX12_either_106 (by decide) ?_
                        refine lv_istore_n (lv' := [(3, .int 0), (2, .int 0), (5, .int 0), (1, .int x_3057), (4, .int x_2629), (0, .ref this)]) hx hb dX12_either_107 rfl hl (by decide) rfl (fun ls hl => ?_)
                        refine lv_iload_n hx hb dX12_either_108 rfl (lv_at hl 0 rfl) ?_
                        refine lv_if_eq (tgt := 116) hx hb dX12_either_109 (by decide) (fun c_3275 => ?_) (fun c_3275 => absurd c_3275 (by decide))
                        refine lv_goto (tgt := 6) hx hb dX12_either_116 (by decide) ?_
                        exact ih_2609 x_3057 (0 : Int32) (0 : Int32) I_3245 J_2632 ri_3246 _ _ _ (rg_w h_3222 (by decide)) (rg_w (rg_k (0 : Int32) 0 rfl) (by decide)) (rg_w (rg_k (0 : Int32) 0 rfl) (by decide)) (by have zc0 : (0 : Int32).toInt = 0 := rfl; have zc1 : (1 : Int32).toInt = 1 := rfl; exact ⟨fun q => absurd q (by decide), fun _ => PBz_cg hpbD (by omega) (by omega) (by omega) (by omega) (by omega) rfl⟩) (tm_lec htmA (by omega) (by omega)) (by have zc0 : (0 : Int32).toInt = 0 := rfl; have zc1 : (1 : Int32).toInt = 1 := rfl; exact tm_ms2' hm_2606 ⟨tm_lec (hp_2637.resolve_left (fun q => q (by omega))).2 (by omega) (by omega), Or.inr (by omega)⟩ (tm_b ((hG.1.1 391 this).2)) (by omega) (by omega)) hF hFr hG hP hD hS (lv_sub hl [5, 3, 1, 0] rfl)
                · replace hF := hF.trans (if_pos c_3173)
                  have tc_3276 : (x_3172).toInt = 0 := congrArg Int32.toInt c_3173
                  have h_3277 : rg x_3172 0 0 := rg_and (rg_full _) (rg_of_eq c_3173 (rg_k (0 : Int32) 0 rfl)) (by decide)
                  have uh_3277 := h_3277.1
                  have vh_3277 := h_3277.2
                  refine lv_iconst (v := 1) hx hb dX12_either_68 (by decide) ?_
                  refine lv_goto (tgt := 73) hx hb dX12_either_69 (by decide) ?_
                  refine lv_istore (lv' := [(5, .int 1), (1, .int x_3057), (4, .int x_2629), (0, .ref this), (2, .int x_1950), (3, .int x_1951)]) hx hb dX12_either_73 hl (by decide) rfl (fun ls hl => ?_)
                  refine lv_iload_n hx hb dX12_either_75 rfl (lv_at hl 1 rfl) ?_
                  refine lv_if_ne (tgt := 93) hx hb dX12_either_76 (by decide) (fun c_3278 => ?_) (fun c_3278 => ?_)
                  · replace hF := hF.trans (if_neg c_3278)
                    have f_3285 := (hr_3061.resolve_right (fun q => c_3278 q.1)).2
                    have tc_3286 : (x_3057).toInt ≠ 0 := fun q => c_3278 (Int32.toInt_inj.mp q)
                    have h_3287 : rg x_3057 1 1 := rg_ne c_3278 h_3064 0 rfl (by decide)
                    have uh_3287 := h_3287.1
                    have vh_3287 := h_3287.2
                    refine lv_iload_n hx hb dX12_either_93 rfl (lv_at hl 1 rfl) ?_
                    refine lv_if_ne (tgt := 102) hx hb dX12_either_94 (by decide) (fun c_3288 => ?_) (fun c_3288 => ?_)
                    · have f_3293 := (hr_3061.resolve_right (fun q => c_3288 q.1)).2
                      have tc_3294 : (x_3057).toInt ≠ 0 := fun q => c_3288 (Int32.toInt_inj.mp q)
                      refine lv_iconst (v := 1) hx hb dX12_either_102 (by decide) ?_
                      refine lv_goto (tgt := 107) hx hb dX12_either_103 (by decide) ?_
                      refine lv_istore_n (lv' := [(3, .int 1), (5, .int 1), (1, .int x_3057), (4, .int x_2629), (0, .ref this), (2, .int x_1950)]) hx hb dX12_either_107 rfl hl (by decide) rfl (fun ls hl => ?_)
                      refine lv_iload_n hx hb dX12_either_108 rfl (lv_at hl 0 rfl) ?_
                      refine lv_if_eq (tgt := 116) hx hb dX12_either_109 (by decide) (fun c_3295 => absurd c_3295 (by decide)) (fun c_3295 => ?_)
                      refine lv_aload_n hx hb dX12_either_112 rfl (lv_at hl 4 rfl) ?_
                      obtain ⟨w_3296, hR_w_3296, hL_w_3296, hK_w_3296, hN_w_3296, hT_w_3296⟩ := sh_a hSH 387 (ci := 12) (kd := 13) (len := 300) rfl (by decide) hL_this hK_this
                      have hO_w_3296 : w_3296 = vrow σ 387 this := vo_k (c := 12) hO_this hR_w_3296
                      refine pk_v (va_runV (As := []) (rest := []) ⟨hx, hb, hml, hown, hts⟩ (s_X12_nextToken_x l D t σ I_3030 J_2632 ri_3031 rj rq H.size tg hSH hG.1 this hL_this hK_this w_3296 hR_w_3296 hL_w_3296 hK_w_3296 hN_w_3296 hT_w_3296) (cwV 0 hts (tw_V tw_832 tw_833 tw_834 tw_5 tw_835) rfl rfl rfl cv_yX12_nextToken_0 ⟨Nat.le_of_ble_eq_true rfl, Nat.le_of_ble_eq_true rfl⟩) ⟨pq_blind, pq_recv hK hP hL_this hK_this (by decide) rfl, pq_pre hK hN hP hD⟩ rfl rfl hl.1 rfl (lv_room (Nat.le_of_ble_eq_true rfl)) dX12_either_113 ⟨Nat.le_of_ble_eq_true rfl, Nat.le_of_ble_eq_true rfl⟩) hD hS hA (fun σ1 μ1 H locs hw_3298 hP hD hS => ?_)
                      obtain ⟨I_3299, J_3300, hu_3301, hg_3302, hp_3304, hp_3305, hp_3306, hfn_3307, hfr_3308⟩ := hw_3298
                      obtain ⟨hu_3301a, hu_3301b⟩ := Prod.mk.inj hu_3301
                      rw [hu_3301a, hu_3301b] at hP hD
                      replace hF := hF.trans (bv_n hfn_3307)
                      replace hFr := fr_tr hFr hfr_3308
                      have tt_3309 := hp_3304
                      have tt_3310 := hp_3305
                      have tt_3311 := hp_3306
                      have tt_3312 : (I_3299 391 this).toInt ≤ 300 := by have z := hg_3302.1.1 391 this; exact z.2
                      have hG := GM.tr hG hg_3302 (by decide)
                      have tt_3313 : (I_3299 396 this).toInt = (I_3030 396 this).toInt := by rw [hg_3302.2.1 396 (by decide) (by decide)]
                      have tt_3314 : (I_3299 398 this).toInt = (I_3030 398 this).toInt := by rw [hg_3302.2.1 398 (by decide) (by decide)]
                      have tt_3315 : (I_3299 401 this).toInt = (I_3030 401 this).toInt := by rw [hg_3302.2.1 401 (by decide) (by decide)]
                      have tt_3316 : (I_3299 402 this).toInt = (I_3030 402 this).toInt := by rw [hg_3302.2.1 402 (by decide) (by decide)]
                      have tt_3317 : (I_3299 397 this).toInt = (I_3030 397 this).toInt := by rw [hg_3302.2.1 397 (by decide) (by decide)]
                      refine lv_goto (tgt := 6) hx hb dX12_either_116 (by decide) ?_
                      exact ih_2609 x_3057 x_1950 (1 : Int32) I_3299 J_3300 ri_3031 _ _ _ (rg_w h_3287 (by decide)) (rg_w h_2616 (by decide)) (rg_w (rg_k (1 : Int32) 1 rfl) (by decide)) (by have zc0 : (0 : Int32).toInt = 0 := rfl; have zc1 : (1 : Int32).toInt = 1 := rfl; exact ⟨fun _ => by rw [show tb + (x_3057).toInt + (x_1950).toInt = (tb + (x_1950).toInt + 1) from by omega, show K + (x_3057).toInt + (x_1950).toInt = (K + (x_1950).toInt) + 1 from by omega]; exact PBz_tok hpbC (by omega) (by omega) (by omega) (by omega) (by omega) (by omega) (by omega) rfl, fun q => absurd q (by decide)⟩) (Int.le_of_lt (Int.lt_of_lt_of_le (tm_lt (by omega) (by omega) (by omega)) htmA)) (by have zc0 : (0 : Int32).toInt = 0 := rfl; have zc1 : (1 : Int32).toInt = 1 := rfl; exact tm_ms2' hm_2606 ⟨Int.le_of_lt (Int.lt_of_lt_of_le (tm_lt (s := (I_3030 391 this).toInt) (k := (I_3030 393 this).toInt) (by omega) (by omega) (by omega)) (tm_lec (hp_2637.resolve_left (fun q => q (by omega))).2 (by omega) (by omega))), Or.inl (Int.lt_of_lt_of_le (tm_lt (s := (I_3030 391 this).toInt) (k := (I_3030 393 this).toInt) (by omega) (by omega) (by omega)) (tm_lec (hp_2637.resolve_left (fun q => q (by omega))).2 (by omega) (by omega)))⟩ (tm_b ((hG.1.1 391 this).2)) (by omega) (by omega)) hF hFr hG hP hD hS (lv_sub hl [4, 2, 5, 0] rfl)
                    · have f_3318 := (hr_3061.resolve_left (fun q => absurd (q.1.symm.trans c_3288) (by decide))).2
                      have tc_3319 : (x_3057).toInt = 0 := congrArg Int32.toInt c_3288
                      exact (rg_empty (rg_and h_3287 (rg_of_eq c_3288 (rg_k (0 : Int32) 0 rfl)) (lo := 1) (hi := 0) (by decide)) (by decide)).elim
                  · replace hF := hF.trans (if_pos c_3278)
                    have f_3320 := (hr_3061.resolve_left (fun q => absurd (q.1.symm.trans c_3278) (by decide))).2
                    have tc_3321 : (x_3057).toInt = 0 := congrArg Int32.toInt c_3278
                    have h_3322 : rg x_3057 0 0 := rg_and h_3064 (rg_of_eq c_3278 (rg_k (0 : Int32) 0 rfl)) (by decide)
                    have uh_3322 := h_3322.1
                    have vh_3322 := h_3322.2
                    refine lv_iload_n hx hb dX12_either_79 rfl (lv_at hl 4 rfl) ?_
                    refine lv_if_eq (tgt := 90) hx hb dX12_either_80 (by decide) (fun c_3323 => ?_) (fun c_3323 => ?_)
                    · replace hF := hF.trans (if_pos c_3323)
                      have tc_3328 : (x_1950).toInt = 0 := congrArg Int32.toInt c_3323
                      have h_3329 : rg x_1950 0 0 := rg_and h_2616 (rg_of_eq c_3323 (rg_k (0 : Int32) 0 rfl)) (by decide)
                      have uh_3329 := h_3329.1
                      have vh_3329 := h_3329.2
                      have hpbD : PBz (I_3030 396 this).toInt (I_3030 398 this).toInt (I_3030 402 this).toInt (I_3030 391 this).toInt (I_3030 393 this).toInt (ri_3031 this_a) bb f0 fr va (tb + 1) nn K := by have q := hpbC; rw [show (tb + (x_1950).toInt + 1) = tb + 1 from by omega, show (K + (x_1950).toInt) = K from by omega] at q; exact q
                      refine lv_iload hx hb dX12_either_90 (lv_at hl 0 rfl) ?_
                      refine lv_istore_n (lv' := [(2, .int 1), (5, .int 1), (1, .int x_3057), (4, .int x_2629), (0, .ref this), (3, .int x_1951)]) hx hb dX12_either_92 rfl hl (by decide) rfl (fun ls hl => ?_)
                      refine lv_iload_n hx hb dX12_either_93 rfl (lv_at hl 2 rfl) ?_
                      refine lv_if_ne (tgt := 102) hx hb dX12_either_94 (by decide) (fun c_3330 => ?_) (fun c_3330 => ?_)
                      · have f_3335 := (hr_3061.resolve_right (fun q => c_3330 q.1)).2
                        have tc_3336 : (x_3057).toInt ≠ 0 := fun q => c_3330 (Int32.toInt_inj.mp q)
                        exact (rg_empty (rg_ne c_3330 h_3322 0 rfl (lo := 1) (hi := (-1)) (by decide)) (by decide)).elim
                      · have f_3337 := (hr_3061.resolve_left (fun q => absurd (q.1.symm.trans c_3330) (by decide))).2
                        have tc_3338 : (x_3057).toInt = 0 := congrArg Int32.toInt c_3330
                        refine lv_iload hx hb dX12_either_97 (lv_at hl 1 rfl) ?_
                        refine lv_if_eq (tgt := 106) hx hb dX12_either_99 (by decide) (fun c_3339 => absurd c_3339 (by decide)) (fun c_3339 => ?_)
                        refine lv_iconst (v := 1) hx hb dX12_either_102 (by decide) ?_
                        refine lv_goto (tgt := 107) hx hb dX12_either_103 (by decide) ?_
                        refine lv_istore_n (lv' := [(3, .int 1), (2, .int 1), (5, .int 1), (1, .int x_3057), (4, .int x_2629), (0, .ref this)]) hx hb dX12_either_107 rfl hl (by decide) rfl (fun ls hl => ?_)
                        refine lv_iload_n hx hb dX12_either_108 rfl (lv_at hl 0 rfl) ?_
                        refine lv_if_eq (tgt := 116) hx hb dX12_either_109 (by decide) (fun c_3340 => absurd c_3340 (by decide)) (fun c_3340 => ?_)
                        refine lv_aload_n hx hb dX12_either_112 rfl (lv_at hl 5 rfl) ?_
                        obtain ⟨w_3341, hR_w_3341, hL_w_3341, hK_w_3341, hN_w_3341, hT_w_3341⟩ := sh_a hSH 387 (ci := 12) (kd := 13) (len := 300) rfl (by decide) hL_this hK_this
                        have hO_w_3341 : w_3341 = vrow σ 387 this := vo_k (c := 12) hO_this hR_w_3341
                        refine pk_v (va_runV (As := []) (rest := []) ⟨hx, hb, hml, hown, hts⟩ (s_X12_nextToken_x l D t σ I_3030 J_2632 ri_3031 rj rq H.size tg hSH hG.1 this hL_this hK_this w_3341 hR_w_3341 hL_w_3341 hK_w_3341 hN_w_3341 hT_w_3341) (cwV 0 hts (tw_V tw_832 tw_833 tw_834 tw_5 tw_835) rfl rfl rfl cv_yX12_nextToken_0 ⟨Nat.le_of_ble_eq_true rfl, Nat.le_of_ble_eq_true rfl⟩) ⟨pq_blind, pq_recv hK hP hL_this hK_this (by decide) rfl, pq_pre hK hN hP hD⟩ rfl rfl hl.1 rfl (lv_room (Nat.le_of_ble_eq_true rfl)) dX12_either_113 ⟨Nat.le_of_ble_eq_true rfl, Nat.le_of_ble_eq_true rfl⟩) hD hS hA (fun σ1 μ1 H locs hw_3343 hP hD hS => ?_)
                        obtain ⟨I_3344, J_3345, hu_3346, hg_3347, hp_3349, hp_3350, hp_3351, hfn_3352, hfr_3353⟩ := hw_3343
                        obtain ⟨hu_3346a, hu_3346b⟩ := Prod.mk.inj hu_3346
                        rw [hu_3346a, hu_3346b] at hP hD
                        replace hF := hF.trans (bv_n hfn_3352)
                        replace hFr := fr_tr hFr hfr_3353
                        have tt_3354 := hp_3349
                        have tt_3355 := hp_3350
                        have tt_3356 := hp_3351
                        have tt_3357 : (I_3344 391 this).toInt ≤ 300 := by have z := hg_3347.1.1 391 this; exact z.2
                        have hG := GM.tr hG hg_3347 (by decide)
                        have tt_3358 : (I_3344 396 this).toInt = (I_3030 396 this).toInt := by rw [hg_3347.2.1 396 (by decide) (by decide)]
                        have tt_3359 : (I_3344 398 this).toInt = (I_3030 398 this).toInt := by rw [hg_3347.2.1 398 (by decide) (by decide)]
                        have tt_3360 : (I_3344 401 this).toInt = (I_3030 401 this).toInt := by rw [hg_3347.2.1 401 (by decide) (by decide)]
                        have tt_3361 : (I_3344 402 this).toInt = (I_3030 402 this).toInt := by rw [hg_3347.2.1 402 (by decide) (by decide)]
                        have tt_3362 : (I_3344 397 this).toInt = (I_3030 397 this).toInt := by rw [hg_3347.2.1 397 (by decide) (by decide)]
                        refine lv_goto (tgt := 6) hx hb dX12_either_116 (by decide) ?_
                        exact ih_2609 x_3057 (1 : Int32) (1 : Int32) I_3344 J_3345 ri_3031 _ _ _ (rg_w h_3322 (by decide)) (rg_w (rg_k (1 : Int32) 1 rfl) (by decide)) (rg_w (rg_k (1 : Int32) 1 rfl) (by decide)) (by have zc0 : (0 : Int32).toInt = 0 := rfl; have zc1 : (1 : Int32).toInt = 1 := rfl; exact ⟨fun _ => by rw [show tb + (x_3057).toInt + (1 : Int32).toInt = (tb + 1) from by omega, show K + (x_3057).toInt + (1 : Int32).toInt = K + 1 from by omega]; exact PBz_tok hpbD (by omega) (by omega) (by omega) (by omega) (by omega) (by omega) (by omega) rfl, fun q => absurd q (by decide)⟩) (Int.le_of_lt (Int.lt_of_lt_of_le (tm_lt (by omega) (by omega) (by omega)) htmA)) (by have zc0 : (0 : Int32).toInt = 0 := rfl; have zc1 : (1 : Int32).toInt = 1 := rfl; exact tm_ms2' hm_2606 ⟨Int.le_of_lt (Int.lt_of_lt_of_le (tm_lt (s := (I_3030 391 this).toInt) (k := (I_3030 393 this).toInt) (by omega) (by omega) (by omega)) (tm_lec (hp_2637.resolve_left (fun q => q (by omega))).2 (by omega) (by omega))), Or.inl (Int.lt_of_lt_of_le (tm_lt (s := (I_3030 391 this).toInt) (k := (I_3030 393 this).toInt) (by omega) (by omega) (by omega)) (tm_lec (hp_2637.resolve_left (fun q => q (by omega))).2 (by omega) (by omega)))⟩ (tm_b ((hG.1.1 391 this).2)) (by omega) (by omega)) hF hFr hG hP hD hS (lv_sub hl [5, 3, 1, 0] rfl)
                    · replace hF := hF.trans (if_neg c_3323)
                      have tc_3363 : (x_1950).toInt ≠ 0 := fun q => c_3323 (Int32.toInt_inj.mp q)
                      have h_3364 : rg x_1950 1 1 := rg_ne c_3323 h_2616 0 rfl (by decide)
                      have uh_3364 := h_3364.1
                      have vh_3364 := h_3364.2
                      refine lv_aload_n hx hb dX12_either_83 rfl (lv_at hl 3 rfl) ?_
                      refine lv_bipush (v := 22) hx hb dX12_either_84 (by decide) ?_
                      refine lv_iconst (v := 0) hx hb dX12_either_86 (by decide) ?_
                      have hq1 := PBz_t hpbC
                      have hq2 := PBz_w hpbC (Or.inr (by omega))
                      refine pk_v (va_runV (As := [.int 22, .int 0]) (rest := []) ⟨hx, hb, hml, hown, hts⟩ (s_X12_emit l D t σ I_3030 J_2632 ri_3031 rj rq H.size tg hSH hG.1 this (22 : Int32) (0 : Int32) hL_this hK_this this_a hR_this_a hL_this_a hK_this_a hN_this_a hT_this_a (by omega) (by omega)) (cwV 2 hts (tw_V tw_905 tw_906 tw_907 tw_5 tw_908) rfl rfl rfl cv_yX12_emit_2 ⟨Nat.le_of_ble_eq_true rfl, Nat.le_of_ble_eq_true rfl⟩) ⟨pq_blind, pq_recv hK hP hL_this hK_this (by decide) rfl, pq_pre hK hN hP hD⟩ rfl rfl hl.1 rfl (lv_room (Nat.le_of_ble_eq_true rfl)) dX12_either_87 ⟨Nat.le_of_ble_eq_true rfl, Nat.le_of_ble_eq_true rfl⟩) hD hS hA (fun σ1 μ1 H locs hw_3366 hP hD hS => ?_)
                      obtain ⟨I_3367, ri_3368, hu_3369, hg_3370, hp_3372, hp_3373, hp_3374, hp_3375, hfn_3376, hfr_3377⟩ := hw_3366
                      obtain ⟨hu_3369a, hu_3369b⟩ := Prod.mk.inj hu_3369
                      rw [hu_3369a, hu_3369b] at hP hD
                      replace hF := hF.trans (bv_n hfn_3376)
                      replace hFr := fr_tr hFr hfr_3377
                      obtain ⟨v_3378, ev_3378, hv_3378⟩ := hp_3372
                      have tt_3379 : (I_3367 398 this).toInt = (I_3030 398 this).toInt + 1 := by rw [ev_3378, pq_us]; exact hv_3378
                      have tt_3380 : (I_3367 403 this).toInt = (I_3030 403 this).toInt := by rw [ev_3378, pq_uf _ _ _ (by decide)]
                      have hG := GM.tr hG hg_3370 (by decide)
                      have tt_3381 : (I_3367 396 this).toInt = (I_3030 396 this).toInt := by rw [hg_3370.2.1 396 (by decide) (by decide)]
                      have tt_3382 : (I_3367 401 this).toInt = (I_3030 401 this).toInt := by rw [hg_3370.2.1 401 (by decide) (by decide)]
                      have tt_3383 : (I_3367 402 this).toInt = (I_3030 402 this).toInt := by rw [hg_3370.2.1 402 (by decide) (by decide)]
                      have tt_3384 : (I_3367 391 this).toInt = (I_3030 391 this).toInt := by rw [hg_3370.2.1 391 (by decide) (by decide)]
                      have tt_3385 : (I_3367 393 this).toInt = (I_3030 393 this).toInt := by rw [hg_3370.2.1 393 (by decide) (by decide)]
                      have tt_3386 : (I_3367 397 this).toInt = (I_3030 397 this).toInt := by rw [hg_3370.2.1 397 (by decide) (by decide)]
                      have hpbD : PBz (I_3367 396 this).toInt (I_3367 398 this).toInt (I_3367 402 this).toInt (I_3367 391 this).toInt (I_3367 393 this).toInt (ri_3368 this_a) bb f0 fr va (tb + 1) nn K := by have zc0 : (0 : Int32).toInt = 0 := rfl; have zc1 : (1 : Int32).toInt = 1 := rfl; have zo : (22 : Int32).toInt = 22 := rfl; exact PBz_em (x := 22) (by rw [show K + 1 = (K + (x_1950).toInt) from by omega]; exact hpbC) (by omega) (fun j hj => hp_3373 j (by omega)) (by rw [show (I_3030 396 this).toInt + 250 + 2 * (I_3030 398 this).toInt = (I_3030 396 this).toInt + 250 + 2 * (I_3030 398 this).toInt from by omega]; exact hp_3374) (by omega) (by omega) (by omega) (by omega) (by omega) (by omega)
                      refine lv_iload hx hb dX12_either_90 (lv_at hl 0 rfl) ?_
                      refine lv_istore_n (lv' := [(2, .int 1), (5, .int 1), (1, .int x_3057), (4, .int x_2629), (0, .ref this), (3, .int x_1951)]) hx hb dX12_either_92 rfl hl (by decide) rfl (fun ls hl => ?_)
                      refine lv_iload_n hx hb dX12_either_93 rfl (lv_at hl 2 rfl) ?_
                      refine lv_if_ne (tgt := 102) hx hb dX12_either_94 (by decide) (fun c_3387 => ?_) (fun c_3387 => ?_)
                      · have f_3392 := (hr_3061.resolve_right (fun q => c_3387 q.1)).2
                        have tc_3393 : (x_3057).toInt ≠ 0 := fun q => c_3387 (Int32.toInt_inj.mp q)
                        exact (rg_empty (rg_ne c_3387 h_3322 0 rfl (lo := 1) (hi := (-1)) (by decide)) (by decide)).elim
                      · have f_3394 := (hr_3061.resolve_left (fun q => absurd (q.1.symm.trans c_3387) (by decide))).2
                        have tc_3395 : (x_3057).toInt = 0 := congrArg Int32.toInt c_3387
                        refine lv_iload hx hb dX12_either_97 (lv_at hl 1 rfl) ?_
                        refine lv_if_eq (tgt := 106) hx hb dX12_either_99 (by decide) (fun c_3396 => absurd c_3396 (by decide)) (fun c_3396 => ?_)
                        refine lv_iconst (v := 1) hx hb dX12_either_102 (by decide) ?_
                        refine lv_goto (tgt := 107) hx hb dX12_either_103 (by decide) ?_
                        refine lv_istore_n (lv' := [(3, .int 1), (2, .int 1), (5, .int 1), (1, .int x_3057), (4, .int x_2629), (0, .ref this)]) hx hb dX12_either_107 rfl hl (by decide) rfl (fun ls hl => ?_)
                        refine lv_iload_n hx hb dX12_either_108 rfl (lv_at hl 0 rfl) ?_
                        refine lv_if_eq (tgt := 116) hx hb dX12_either_109 (by decide) (fun c_3397 => absurd c_3397 (by decide)) (fun c_3397 => ?_)
                        refine lv_aload_n hx hb dX12_either_112 rfl (lv_at hl 5 rfl) ?_
                        obtain ⟨w_3398, hR_w_3398, hL_w_3398, hK_w_3398, hN_w_3398, hT_w_3398⟩ := sh_a hSH 387 (ci := 12) (kd := 13) (len := 300) rfl (by decide) hL_this hK_this
                        have hO_w_3398 : w_3398 = vrow σ 387 this := vo_k (c := 12) hO_this hR_w_3398
                        refine pk_v (va_runV (As := []) (rest := []) ⟨hx, hb, hml, hown, hts⟩ (s_X12_nextToken_x l D t σ I_3367 J_2632 ri_3368 rj rq H.size tg hSH hG.1 this hL_this hK_this w_3398 hR_w_3398 hL_w_3398 hK_w_3398 hN_w_3398 hT_w_3398) (cwV 0 hts (tw_V tw_832 tw_833 tw_834 tw_5 tw_835) rfl rfl rfl cv_yX12_nextToken_0 ⟨Nat.le_of_ble_eq_true rfl, Nat.le_of_ble_eq_true rfl⟩) ⟨pq_blind, pq_recv hK hP hL_this hK_this (by decide) rfl, pq_pre hK hN hP hD⟩ rfl rfl hl.1 rfl (lv_room (Nat.le_of_ble_eq_true rfl)) dX12_either_113 ⟨Nat.le_of_ble_eq_true rfl, Nat.le_of_ble_eq_true rfl⟩) hD hS hA (fun σ1 μ1 H locs hw_3400 hP hD hS => ?_)
                        obtain ⟨I_3401, J_3402, hu_3403, hg_3404, hp_3406, hp_3407, hp_3408, hfn_3409, hfr_3410⟩ := hw_3400
                        obtain ⟨hu_3403a, hu_3403b⟩ := Prod.mk.inj hu_3403
                        rw [hu_3403a, hu_3403b] at hP hD
                        replace hF := hF.trans (bv_n hfn_3409)
                        replace hFr := fr_tr hFr hfr_3410
                        have tt_3411 := hp_3406
                        have tt_3412 := hp_3407
                        have tt_3413 := hp_3408
                        have tt_3414 : (I_3401 391 this).toInt ≤ 300 := by have z := hg_3404.1.1 391 this; exact z.2
                        have hG := GM.tr hG hg_3404 (by decide)
                        have tt_3415 : (I_3401 396 this).toInt = (I_3367 396 this).toInt := by rw [hg_3404.2.1 396 (by decide) (by decide)]
                        have tt_3416 : (I_3401 398 this).toInt = (I_3367 398 this).toInt := by rw [hg_3404.2.1 398 (by decide) (by decide)]
                        have tt_3417 : (I_3401 401 this).toInt = (I_3367 401 this).toInt := by rw [hg_3404.2.1 401 (by decide) (by decide)]
                        have tt_3418 : (I_3401 402 this).toInt = (I_3367 402 this).toInt := by rw [hg_3404.2.1 402 (by decide) (by decide)]
                        have tt_3419 : (I_3401 397 this).toInt = (I_3367 397 this).toInt := by rw [hg_3404.2.1 397 (by decide) (by decide)]
                        refine lv_goto (tgt := 6) hx hb dX12_either_116 (by decide) ?_
                        exact ih_2609 x_3057 (1 : Int32) (1 : Int32) I_3401 J_3402 ri_3368 _ _ _ (rg_w h_3322 (by decide)) (rg_w (rg_k (1 : Int32) 1 rfl) (by decide)) (rg_w (rg_k (1 : Int32) 1 rfl) (by decide)) (by have zc0 : (0 : Int32).toInt = 0 := rfl; have zc1 : (1 : Int32).toInt = 1 := rfl; exact ⟨fun _ => by rw [show tb + (x_3057).toInt + (1 : Int32).toInt = (tb + 1) from by omega, show K + (x_3057).toInt + (1 : Int32).toInt = K + 1 from by omega]; exact PBz_tok hpbD (by omega) (by omega) (by omega) (by omega) (by omega) (by omega) (by omega) rfl, fun q => absurd q (by decide)⟩) (Int.le_of_lt (Int.lt_of_lt_of_le (tm_lt (by omega) (by omega) (by omega)) htmA)) (by have zc0 : (0 : Int32).toInt = 0 := rfl; have zc1 : (1 : Int32).toInt = 1 := rfl; exact tm_ms2' hm_2606 ⟨Int.le_of_lt (Int.lt_of_lt_of_le (tm_lt (s := (I_3367 391 this).toInt) (k := (I_3367 393 this).toInt) (by omega) (by omega) (by omega)) (tm_lec (hp_2637.resolve_left (fun q => q (by omega))).2 (by omega) (by omega))), Or.inl (Int.lt_of_lt_of_le (tm_lt (s := (I_3367 391 this).toInt) (k := (I_3367 393 this).toInt) (by omega) (by omega) (by omega)) (tm_lec (hp_2637.resolve_left (fun q => q (by omega))).2 (by omega) (by omega)))⟩ (tm_b ((hG.1.1 391 this).2)) (by omega) (by omega)) hF hFr hG hP hD hS (lv_sub hl [5, 3, 1, 0] rfl)
          · replace hF := hF.trans (if_neg c_2642)
            have tc_3420 : (x_2629).toInt ≠ 0 := fun q => c_2642 (Int32.toInt_inj.mp q)
            have h_3421 : rg x_2629 1 3 := rg_ne c_2642 hr_2636 0 rfl (by decide)
            have uh_3421 := h_3421.1
            have vh_3421 := h_3421.2
            refine lv_iload hx hb dX12_either_21 (lv_at hl 0 rfl) ?_
            subst hQ
            exact W.iret (v := x_2629) hx hb hr (fun t1 ht hW => ⟨⟨x_2629, (σ, I_2631, J_2632, ri_2633, rj, rq), rfl, ⟨I_2631, J_2632, ri_2633, rfl, hG, (Or.inl (by omega)), (hF0.symm.trans hF), hFr, (rg_w h_3421 (by decide))⟩, by rw [ht]; exact hP, va_K.moved hW.alike hK, hD⟩, hS.F ht⟩) hS.2.2 dX12_either_23
    replace hF := hF.trans (ap_n (vI_e (f := 391) hO_this (by decide)))
    replace hF := hF.trans (ap_n (vI_e (f := 393) hO_this (by decide)))
    exact L_2608 _ (0 : Int32) (0 : Int32) (1 : Int32) I J ri _ _ _ (rg_w (rg_k (0 : Int32) 0 rfl) (by decide)) (rg_w (rg_k (0 : Int32) 0 rfl) (by decide)) (rg_w (rg_k (1 : Int32) 1 rfl) (by decide)) (by have zc0 : (0 : Int32).toInt = 0 := rfl; have zc1 : (1 : Int32).toInt = 1 := rfl; exact ⟨fun _ => by rw [show tb + (0 : Int32).toInt + (0 : Int32).toInt = tb from by omega, show K + (0 : Int32).toInt + (0 : Int32).toInt = K from by omega]; exact hpb, fun q => absurd q (by decide)⟩) (Int.le_refl _) (Nat.lt_succ_self _) hF hFr hG hP hD hS (lv_sub hl [3, 2, 1, 0] rfl)
  exact go _ _ _ hP hD hS hl
