theorem dX12_either_0 : decode cX12_either 0 = .ok (.iconst 0, 1) := oc_3 (by decide +kernel)
theorem dX12_either_1 : decode cX12_either 1 = .ok (.istore_n 1, 1) := oc_60 (by decide +kernel)
theorem dX12_either_2 : decode cX12_either 2 = .ok (.iconst 0, 1) := oc_3 (by decide +kernel)
theorem dX12_either_3 : decode cX12_either 3 = .ok (.istore_n 2, 1) := oc_61 (by decide +kernel)
theorem dX12_either_4 : decode cX12_either 4 = .ok (.iconst 1, 1) := oc_4 (by decide +kernel)
theorem dX12_either_5 : decode cX12_either 5 = .ok (.istore_n 3, 1) := oc_62 (by decide +kernel)
theorem dX12_either_6 : decode cX12_either 6 = .ok (.iload_n 3, 1) := oc_29 (by decide +kernel)
theorem dX12_either_7 : decode cX12_either 7 = .ok (.ifCond .eq 112, 3) := oc_153 (a := 0) (b := 112) (by decide +kernel)
theorem dX12_either_119 : decode cX12_either 119 = .ok (.iconst 0, 1) := oc_3 (by decide +kernel)
theorem dX12_either_120 : decode cX12_either 120 = .ok (.ireturn, 1) := oc_172 (by decide +kernel)
theorem dX12_either_10 : decode cX12_either 10 = .ok (.aload_n 0, 1) := oc_42 (by decide +kernel)
theorem tw_875 : Cond.methodLink RX12 231 yX12_ask ∈ wsL_law := sg_37 _ (List.mem_of_getElem? (i := 11) rfl)
theorem tw_876 : Cond.instanceMethod yX12_ask ∈ wsL_law := sg_37 _ (List.mem_of_getElem? (i := 12) rfl)
theorem tw_877 : Cond.selects RX12 yX12_ask yX12_ask ∈ wsL_law := sg_37 _ (List.mem_of_getElem? (i := 13) rfl)
theorem tw_878 : Cond.code yX12_ask cX12_ask 5 (some .int) ∈ wsL_law := sg_37 _ (List.mem_of_getElem? (i := 14) rfl)
theorem dX12_either_11 : decode cX12_either 11 = .ok (.invokevirtual 231, 3) := oc_182 (a := 0) (b := 231) (by decide +kernel)
theorem dX12_either_14 : decode cX12_either 14 = .ok (.istore 4, 2) := oc_54 (by decide +kernel)
theorem dX12_either_16 : decode cX12_either 16 = .ok (.iload 4, 2) := oc_21 (by decide +kernel)
theorem dX12_either_18 : decode cX12_either 18 = .ok (.ifCond .eq 6, 3) := oc_153 (a := 0) (b := 6) (by decide +kernel)
theorem dX12_either_24 : decode cX12_either 24 = .ok (.iload_n 1, 1) := oc_27 (by decide +kernel)
theorem dX12_either_25 : decode cX12_either 25 = .ok (.ifCond .eq 10, 3) := oc_153 (a := 0) (b := 10) (by decide +kernel)
theorem dX12_either_35 : decode cX12_either 35 = .ok (.aload_n 0, 1) := oc_42 (by decide +kernel)
theorem dX12_either_36 : decode cX12_either 36 = .ok (.bipush 97, 2) := oc_16 (a := 97) (by decide +kernel)
theorem dX12_either_38 : decode cX12_either 38 = .ok (.bipush 110, 2) := oc_16 (a := 110) (by decide +kernel)
theorem dX12_either_40 : decode cX12_either 40 = .ok (.bipush 100, 2) := oc_16 (a := 100) (by decide +kernel)
theorem dX12_either_42 : decode cX12_either 42 = .ok (.invokestatic 160, 3) := oc_184 (a := 0) (b := 160) (by decide +kernel)
theorem dX12_either_45 : decode cX12_either 45 = .ok (.invokevirtual 221, 3) := oc_182 (a := 0) (b := 221) (by decide +kernel)
theorem dX12_either_48 : decode cX12_either 48 = .ok (.istore_n 1, 1) := oc_60 (by decide +kernel)
theorem dX12_either_49 : decode cX12_either 49 = .ok (.aload_n 0, 1) := oc_42 (by decide +kernel)
theorem dX12_either_50 : decode cX12_either 50 = .ok (.getfield 143, 3) := oc_180 (a := 0) (b := 143) (by decide +kernel)
theorem dX12_either_53 : decode cX12_either 53 = .ok (.iconst 2, 1) := oc_5 (by decide +kernel)
theorem dX12_either_54 : decode cX12_either 54 = .ok (.if_icmp .ne 18, 3) := oc_160 (a := 0) (b := 18) (by decide +kernel)
theorem dX12_either_72 : decode cX12_either 72 = .ok (.iconst 0, 1) := oc_3 (by decide +kernel)
theorem dX12_either_73 : decode cX12_either 73 = .ok (.istore 5, 2) := oc_54 (by decide +kernel)
theorem dX12_either_75 : decode cX12_either 75 = .ok (.iload_n 1, 1) := oc_27 (by decide +kernel)
theorem dX12_either_76 : decode cX12_either 76 = .ok (.ifCond .ne 17, 3) := oc_154 (a := 0) (b := 17) (by decide +kernel)
theorem dX12_either_93 : decode cX12_either 93 = .ok (.iload_n 1, 1) := oc_27 (by decide +kernel)
theorem dX12_either_94 : decode cX12_either 94 = .ok (.ifCond .ne 8, 3) := oc_154 (a := 0) (b := 8) (by decide +kernel)
theorem dX12_either_102 : decode cX12_either 102 = .ok (.iconst 1, 1) := oc_4 (by decide +kernel)
theorem dX12_either_103 : decode cX12_either 103 = .ok (.goto 4, 3) := oc_167 (a := 0) (b := 4) (by decide +kernel)
theorem dX12_either_107 : decode cX12_either 107 = .ok (.istore_n 3, 1) := oc_62 (by decide +kernel)
theorem dX12_either_108 : decode cX12_either 108 = .ok (.iload_n 3, 1) := oc_29 (by decide +kernel)
theorem dX12_either_109 : decode cX12_either 109 = .ok (.ifCond .eq 7, 3) := oc_153 (a := 0) (b := 7) (by decide +kernel)
theorem dX12_either_112 : decode cX12_either 112 = .ok (.aload_n 0, 1) := oc_42 (by decide +kernel)
theorem dX12_either_113 : decode cX12_either 113 = .ok (.invokevirtual 196, 3) := oc_182 (a := 0) (b := 196) (by decide +kernel)
theorem dX12_either_116 : decode cX12_either 116 = .ok (.goto (-110), 3) := oc_167 (a := 255) (b := 146) (by decide +kernel)
theorem dX12_either_79 : decode cX12_either 79 = .ok (.iload_n 2, 1) := oc_28 (by decide +kernel)
theorem dX12_either_80 : decode cX12_either 80 = .ok (.ifCond .eq 10, 3) := oc_153 (a := 0) (b := 10) (by decide +kernel)
theorem dX12_either_90 : decode cX12_either 90 = .ok (.iload 5, 2) := oc_21 (by decide +kernel)
theorem dX12_either_92 : decode cX12_either 92 = .ok (.istore_n 2, 1) := oc_61 (by decide +kernel)
theorem dX12_either_97 : decode cX12_either 97 = .ok (.iload 5, 2) := oc_21 (by decide +kernel)
theorem dX12_either_99 : decode cX12_either 99 = .ok (.ifCond .eq 7, 3) := oc_153 (a := 0) (b := 7) (by decide +kernel)
theorem dX12_either_106 : decode cX12_either 106 = .ok (.iconst 0, 1) := oc_3 (by decide +kernel)
theorem dX12_either_83 : decode cX12_either 83 = .ok (.aload_n 0, 1) := oc_42 (by decide +kernel)
theorem dX12_either_84 : decode cX12_either 84 = .ok (.bipush 22, 2) := oc_16 (a := 22) (by decide +kernel)
theorem dX12_either_86 : decode cX12_either 86 = .ok (.iconst 0, 1) := oc_3 (by decide +kernel)
theorem dX12_either_87 : decode cX12_either 87 = .ok (.invokevirtual 188, 3) := oc_182 (a := 0) (b := 188) (by decide +kernel)
theorem dX12_either_57 : decode cX12_either 57 = .ok (.aload_n 0, 1) := oc_42 (by decide +kernel)
theorem dX12_either_58 : decode cX12_either 58 = .ok (.getfield 156, 3) := oc_180 (a := 0) (b := 156) (by decide +kernel)
theorem tw_874 : Cond.constantLong RX12 234 (28530) ∈ wsL_law := sg_37 _ (List.mem_of_getElem? (i := 10) rfl)
theorem dX12_either_61 : decode cX12_either 61 = .ok (.ldc2_w 234, 3) := oc_20 (a := 0) (b := 234) (by decide +kernel)
theorem dX12_either_64 : decode cX12_either 64 = .ok (.lcmp, 1) := oc_148 (by decide +kernel)
theorem dX12_either_65 : decode cX12_either 65 = .ok (.ifCond .ne 7, 3) := oc_154 (a := 0) (b := 7) (by decide +kernel)
theorem dX12_either_68 : decode cX12_either 68 = .ok (.iconst 1, 1) := oc_4 (by decide +kernel)
theorem dX12_either_69 : decode cX12_either 69 = .ok (.goto 4, 3) := oc_167 (a := 0) (b := 4) (by decide +kernel)
theorem dX12_either_28 : decode cX12_either 28 = .ok (.aload_n 0, 1) := oc_42 (by decide +kernel)
theorem dX12_either_29 : decode cX12_either 29 = .ok (.bipush 21, 2) := oc_16 (a := 21) (by decide +kernel)
theorem dX12_either_31 : decode cX12_either 31 = .ok (.iconst 0, 1) := oc_3 (by decide +kernel)
theorem dX12_either_32 : decode cX12_either 32 = .ok (.invokevirtual 188, 3) := oc_182 (a := 0) (b := 188) (by decide +kernel)
theorem dX12_either_21 : decode cX12_either 21 = .ok (.iload 4, 2) := oc_21 (by decide +kernel)
theorem dX12_either_23 : decode cX12_either 23 = .ok (.ireturn, 1) := oc_172 (by decide +kernel)
set_option maxRecDepth 100000 in
def g_X12_either_L6 (rj : Nat → Nat → Int64) (rq : Nat → Nat → Option Nat) : Nat → (Int32) → (Int32) → (Int32) → (Nat → Int32) → (Nat → Int64) → (Nat → Nat → Int32) → Int32 × vM
  | 0, x_1949, x_1950, x_1951, I_1952, J_1953, ri_1954 => ((0 : Int32), I_1952, J_1953, ri_1954, rj, rq)
  | n_2607 + 1, x_1949, x_1950, x_1951, I_1952, J_1953, ri_1954 => (if x_1951 = (0 : Int32) then ((0 : Int32), I_1952, J_1953, ri_1954, rj, rq) else (bnI (g_X12_ask I_1952 J_1953 ri_1954 rj rq) fun (x_2629 : Int32) (I_2631 : Nat → Int32) (J_2632 : Nat → Int64) (ri_2633 : Nat → Nat → Int32) (_ : Nat → Nat → Int64) (_ : Nat → Nat → Option Nat) => (if x_2629 = (0 : Int32) then (if x_1949 = (0 : Int32) then (ap1 (g_X12_w3_x (97 : Int32) (110 : Int32) (100 : Int32)) fun (x_2656 : Int64) => (bnI (g_X12_isWord_x x_2656 I_2631 J_2632 ri_2633 rj rq) fun (x_2663 : Int32) (_ : Nat → Int32) (_ : Nat → Int64) (_ : Nat → Nat → Int32) (_ : Nat → Nat → Int64) (_ : Nat → Nat → Option Nat) => (ap1 (I_2631 393) fun (y_2671 : Int32) => (if (y_2671) = (2 : Int32) then (ap1 (J_2632 395) fun (y_2777 : Int64) => (ap1 (lg_cmp (y_2777) (28530 : Int64)) fun (x_2778 : Int32) => (if x_2778 = (0 : Int32) then (if x_2663 = (0 : Int32) then (if x_1950 = (0 : Int32) then (bnV (g_X12_nextToken_x I_2631 J_2632 ri_2633 rj rq) fun (I_2950 : Nat → Int32) (J_2951 : Nat → Int64) (_ : Nat → Nat → Int32) (_ : Nat → Nat → Int64) (_ : Nat → Nat → Option Nat) => ((g_X12_either_L6 rj rq n_2607) x_2663 (1 : Int32) (1 : Int32) I_2950 J_2951 ri_2633)) else (bnV (g_X12_emit (22 : Int32) (0 : Int32) I_2631 J_2632 ri_2633 rj rq) fun (I_2973 : Nat → Int32) (_ : Nat → Int64) (ri_2974 : Nat → Nat → Int32) (_ : Nat → Nat → Int64) (_ : Nat → Nat → Option Nat) => (bnV (g_X12_nextToken_x I_2973 J_2632 ri_2974 rj rq) fun (I_3007 : Nat → Int32) (J_3008 : Nat → Int64) (_ : Nat → Nat → Int32) (_ : Nat → Nat → Int64) (_ : Nat → Nat → Option Nat) => ((g_X12_either_L6 rj rq n_2607) x_2663 (1 : Int32) (1 : Int32) I_3007 J_3008 ri_2974)))) else (bnV (g_X12_nextToken_x I_2631 J_2632 ri_2633 rj rq) fun (I_2905 : Nat → Int32) (J_2906 : Nat → Int64) (_ : Nat → Nat → Int32) (_ : Nat → Nat → Int64) (_ : Nat → Nat → Option Nat) => ((g_X12_either_L6 rj rq n_2607) x_2663 x_1950 (1 : Int32) I_2905 J_2906 ri_2633))) else (if x_2663 = (0 : Int32) then (if x_1950 = (0 : Int32) then ((g_X12_either_L6 rj rq n_2607) x_2663 (0 : Int32) (0 : Int32) I_2631 J_2632 ri_2633) else (bnV (g_X12_emit (22 : Int32) (0 : Int32) I_2631 J_2632 ri_2633 rj rq) fun (I_2851 : Nat → Int32) (_ : Nat → Int64) (ri_2852 : Nat → Nat → Int32) (_ : Nat → Nat → Int64) (_ : Nat → Nat → Option Nat) => ((g_X12_either_L6 rj rq n_2607) x_2663 (0 : Int32) (0 : Int32) I_2851 J_2632 ri_2852))) else (bnV (g_X12_nextToken_x I_2631 J_2632 ri_2633 rj rq) fun (I_2805 : Nat → Int32) (J_2806 : Nat → Int64) (_ : Nat → Nat → Int32) (_ : Nat → Nat → Int64) (_ : Nat → Nat → Option Nat) => ((g_X12_either_L6 rj rq n_2607) x_2663 x_1950 (1 : Int32) I_2805 J_2806 ri_2633)))))) else (if x_2663 = (0 : Int32) then (if x_1950 = (0 : Int32) then ((g_X12_either_L6 rj rq n_2607) x_2663 (0 : Int32) (0 : Int32) I_2631 J_2632 ri_2633) else (bnV (g_X12_emit (22 : Int32) (0 : Int32) I_2631 J_2632 ri_2633 rj rq) fun (I_2744 : Nat → Int32) (_ : Nat → Int64) (ri_2745 : Nat → Nat → Int32) (_ : Nat → Nat → Int64) (_ : Nat → Nat → Option Nat) => ((g_X12_either_L6 rj rq n_2607) x_2663 (0 : Int32) (0 : Int32) I_2744 J_2632 ri_2745))) else (bnV (g_X12_nextToken_x I_2631 J_2632 ri_2633 rj rq) fun (I_2698 : Nat → Int32) (J_2699 : Nat → Int64) (_ : Nat → Nat → Int32) (_ : Nat → Nat → Int64) (_ : Nat → Nat → Option Nat) => ((g_X12_either_L6 rj rq n_2607) x_2663 x_1950 (1 : Int32) I_2698 J_2699 ri_2633))))))) else (bnV (g_X12_emit (21 : Int32) (0 : Int32) I_2631 J_2632 ri_2633 rj rq) fun (I_3030 : Nat → Int32) (_ : Nat → Int64) (ri_3031 : Nat → Nat → Int32) (_ : Nat → Nat → Int64) (_ : Nat → Nat → Option Nat) => (ap1 (g_X12_w3_x (97 : Int32) (110 : Int32) (100 : Int32)) fun (x_3050 : Int64) => (bnI (g_X12_isWord_x x_3050 I_3030 J_2632 ri_3031 rj rq) fun (x_3057 : Int32) (_ : Nat → Int32) (_ : Nat → Int64) (_ : Nat → Nat → Int32) (_ : Nat → Nat → Int64) (_ : Nat → Nat → Option Nat) => (ap1 (I_3030 393) fun (y_3065 : Int32) => (if (y_3065) = (2 : Int32) then (ap1 (J_2632 395) fun (y_3171 : Int64) => (ap1 (lg_cmp (y_3171) (28530 : Int64)) fun (x_3172 : Int32) => (if x_3172 = (0 : Int32) then (if x_3057 = (0 : Int32) then (if x_1950 = (0 : Int32) then (bnV (g_X12_nextToken_x I_3030 J_2632 ri_3031 rj rq) fun (I_3344 : Nat → Int32) (J_3345 : Nat → Int64) (_ : Nat → Nat → Int32) (_ : Nat → Nat → Int64) (_ : Nat → Nat → Option Nat) => ((g_X12_either_L6 rj rq n_2607) x_3057 (1 : Int32) (1 : Int32) I_3344 J_3345 ri_3031)) else (bnV (g_X12_emit (22 : Int32) (0 : Int32) I_3030 J_2632 ri_3031 rj rq) fun (I_3367 : Nat → Int32) (_ : Nat → Int64) (ri_3368 : Nat → Nat → Int32) (_ : Nat → Nat → Int64) (_ : Nat → Nat → Option Nat) => (bnV (g_X12_nextToken_x I_3367 J_2632 ri_3368 rj rq) fun (I_3401 : Nat → Int32) (J_3402 : Nat → Int64) (_ : Nat → Nat → Int32) (_ : Nat → Nat → Int64) (_ : Nat → Nat → Option Nat) => ((g_X12_either_L6 rj rq n_2607) x_3057 (1 : Int32) (1 : Int32) I_3401 J_3402 ri_3368)))) else (bnV (g_X12_nextToken_x I_3030 J_2632 ri_3031 rj rq) fun (I_3299 : Nat → Int32) (J_3300 : Nat → Int64) (_ : Nat → Nat → Int32) (_ : Nat → Nat → Int64) (_ : Nat → Nat → Option Nat) => ((g_X12_either_L6 rj rq n_2607) x_3057 x_1950 (1 : Int32) I_3299 J_3300 ri_3031))) else (if x_3057 = (0 : Int32) then (if x_1950 = (0 : Int32) then ((g_X12_either_L6 rj rq n_2607) x_3057 (0 : Int32) (0 : Int32) I_3030 J_2632 ri_3031) else (bnV (g_X12_emit (22 : Int32) (0 : Int32) I_3030 J_2632 ri_3031 rj rq) fun (I_3245 : Nat → Int32) (_ : Nat → Int64) (ri_3246 : Nat → Nat → Int32) (_ : Nat → Nat → Int64) (_ : Nat → Nat → Option Nat) => ((g_X12_either_L6 rj rq n_2607) x_3057 (0 : Int32) (0 : Int32) I_3245 J_2632 ri_3246))) else (bnV (g_X12_nextToken_x I_3030 J_2632 ri_3031 rj rq) fun (I_3199 : Nat → Int32) (J_3200 : Nat → Int64) (_ : Nat → Nat → Int32) (_ : Nat → Nat → Int64) (_ : Nat → Nat → Option Nat) => ((g_X12_either_L6 rj rq n_2607) x_3057 x_1950 (1 : Int32) I_3199 J_3200 ri_3031)))))) else (if x_3057 = (0 : Int32) then (if x_1950 = (0 : Int32) then ((g_X12_either_L6 rj rq n_2607) x_3057 (0 : Int32) (0 : Int32) I_3030 J_2632 ri_3031) else (bnV (g_X12_emit (22 : Int32) (0 : Int32) I_3030 J_2632 ri_3031 rj rq) fun (I_3138 : Nat → Int32) (_ : Nat → Int64) (ri_3139 : Nat → Nat → Int32) (_ : Nat → Nat → Int64) (_ : Nat → Nat → Option Nat) => ((g_X12_either_L6 rj rq n_2607) x_3057 (0 : Int32) (0 : Int32) I_3138 J_2632 ri_3139))) else (bnV (g_X12_nextToken_x I_3030 J_2632 ri_3031 rj rq) fun (I_3092 : Nat → Int32) (J_3093 : Nat → Int64) (_ : Nat → Nat → Int32) (_ : Nat → Nat → Int64) (_ : Nat → Nat → Option Nat) => ((g_X12_either_L6 rj rq n_2607) x_3057 x_1950 (1 : Int32) I_3092 J_3093 ri_3031))))))))) else (x_2629, I_2631, J_2632, ri_2633, rj, rq))))
set_option maxRecDepth 100000 in
theorem g_X12_either_L6_e {rj : Nat → Nat → Int64} {rq : Nat → Nat → Option Nat} {n_2607 : Nat} {x_1949 : Int32} {x_1950 : Int32} {x_1951 : Int32} {I_1952 : Nat → Int32} {J_1953 : Nat → Int64} {ri_1954 : Nat → Nat → Int32} : g_X12_either_L6 rj rq (n_2607 + 1) x_1949 x_1950 x_1951 I_1952 J_1953 ri_1954 = (if x_1951 = (0 : Int32) then ((0 : Int32), I_1952, J_1953, ri_1954, rj, rq) else (bnI (g_X12_ask I_1952 J_1953 ri_1954 rj rq) fun (x_2629 : Int32) (I_2631 : Nat → Int32) (J_2632 : Nat → Int64) (ri_2633 : Nat → Nat → Int32) (_ : Nat → Nat → Int64) (_ : Nat → Nat → Option Nat) => (if x_2629 = (0 : Int32) then (if x_1949 = (0 : Int32) then (ap1 (g_X12_w3_x (97 : Int32) (110 : Int32) (100 : Int32)) fun (x_2656 : Int64) => (bnI (g_X12_isWord_x x_2656 I_2631 J_2632 ri_2633 rj rq) fun (x_2663 : Int32) (_ : Nat → Int32) (_ : Nat → Int64) (_ : Nat → Nat → Int32) (_ : Nat → Nat → Int64) (_ : Nat → Nat → Option Nat) => (ap1 (I_2631 393) fun (y_2671 : Int32) => (if (y_2671) = (2 : Int32) then (ap1 (J_2632 395) fun (y_2777 : Int64) => (ap1 (lg_cmp (y_2777) (28530 : Int64)) fun (x_2778 : Int32) => (if x_2778 = (0 : Int32) then (if x_2663 = (0 : Int32) then (if x_1950 = (0 : Int32) then (bnV (g_X12_nextToken_x I_2631 J_2632 ri_2633 rj rq) fun (I_2950 : Nat → Int32) (J_2951 : Nat → Int64) (_ : Nat → Nat → Int32) (_ : Nat → Nat → Int64) (_ : Nat → Nat → Option Nat) => ((g_X12_either_L6 rj rq n_2607) x_2663 (1 : Int32) (1 : Int32) I_2950 J_2951 ri_2633)) else (bnV (g_X12_emit (22 : Int32) (0 : Int32) I_2631 J_2632 ri_2633 rj rq) fun (I_2973 : Nat → Int32) (_ : Nat → Int64) (ri_2974 : Nat → Nat → Int32) (_ : Nat → Nat → Int64) (_ : Nat → Nat → Option Nat) => (bnV (g_X12_nextToken_x I_2973 J_2632 ri_2974 rj rq) fun (I_3007 : Nat → Int32) (J_3008 : Nat → Int64) (_ : Nat → Nat → Int32) (_ : Nat → Nat → Int64) (_ : Nat → Nat → Option Nat) => ((g_X12_either_L6 rj rq n_2607) x_2663 (1 : Int32) (1 : Int32) I_3007 J_3008 ri_2974)))) else (bnV (g_X12_nextToken_x I_2631 J_2632 ri_2633 rj rq) fun (I_2905 : Nat → Int32) (J_2906 : Nat → Int64) (_ : Nat → Nat → Int32) (_ : Nat → Nat → Int64) (_ : Nat → Nat → Option Nat) => ((g_X12_either_L6 rj rq n_2607) x_2663 x_1950 (1 : Int32) I_2905 J_2906 ri_2633))) else (if x_2663 = (0 : Int32) then (if x_1950 = (0 : Int32) then ((g_X12_either_L6 rj rq n_2607) x_2663 (0 : Int32) (0 : Int32) I_2631 J_2632 ri_2633) else (bnV (g_X12_emit (22 : Int32) (0 : Int32) I_2631 J_2632 ri_2633 rj rq) fun (I_2851 : Nat → Int32) (_ : Nat → Int64) (ri_2852 : Nat → Nat → Int32) (_ : Nat → Nat → Int64) (_ : Nat → Nat → Option Nat) => ((g_X12_either_L6 rj rq n_2607) x_2663 (0 : Int32) (0 : Int32) I_2851 J_2632 ri_2852))) else (bnV (g_X12_nextToken_x I_2631 J_2632 ri_2633 rj rq) fun (I_2805 : Nat → Int32) (J_2806 : Nat → Int64) (_ : Nat → Nat → Int32) (_ : Nat → Nat → Int64) (_ : Nat → Nat → Option Nat) => ((g_X12_either_L6 rj rq n_2607) x_2663 x_1950 (1 : Int32) I_2805 J_2806 ri_2633)))))) else (if x_2663 = (0 : Int32) then (if x_1950 = (0 : Int32) then ((g_X12_either_L6 rj rq n_2607) x_2663 (0 : Int32) (0 : Int32) I_2631 J_2632 ri_2633) else (bnV (g_X12_emit (22 : Int32) (0 : Int32) I_2631 J_2632 ri_2633 rj rq) fun (I_2744 : Nat → Int32) (_ : Nat → Int64) (ri_2745 : Nat → Nat → Int32) (_ : Nat → Nat → Int64) (_ : Nat → Nat → Option Nat) => ((g_X12_either_L6 rj rq n_2607) x_2663 (0 : Int32) (0 : Int32) I_2744 J_2632 ri_2745))) else (bnV (g_X12_nextToken_x I_2631 J_2632 ri_2633 rj rq) fun (I_2698 : Nat → Int32) (J_2699 : Nat → Int64) (_ : Nat → Nat → Int32) (_ : Nat → Nat → Int64) (_ : Nat → Nat → Option Nat) => ((g_X12_either_L6 rj rq n_2607) x_2663 x_1950 (1 : Int32) I_2698 J_2699 ri_2633))))))) else (bnV (g_X12_emit (21 : Int32) (0 : Int32) I_2631 J_2632 ri_2633 rj rq) fun (I_3030 : Nat → Int32) (_ : Nat → Int64) (ri_3031 : Nat → Nat → Int32) (_ : Nat → Nat → Int64) (_ : Nat → Nat → Option Nat) => (ap1 (g_X12_w3_x (97 : Int32) (110 : Int32) (100 : Int32)) fun (x_3050 : Int64) => (bnI (g_X12_isWord_x x_3050 I_3030 J_2632 ri_3031 rj rq) fun (x_3057 : Int32) (_ : Nat → Int32) (_ : Nat → Int64) (_ : Nat → Nat → Int32) (_ : Nat → Nat → Int64) (_ : Nat → Nat → Option Nat) => (ap1 (I_3030 393) fun (y_3065 : Int32) => (if (y_3065) = (2 : Int32) then (ap1 (J_2632 395) fun (y_3171 : Int64) => (ap1 (lg_cmp (y_3171) (28530 : Int64)) fun (x_3172 : Int32) => (if x_3172 = (0 : Int32) then (if x_3057 = (0 : Int32) then (if x_1950 = (0 : Int32) then (bnV (g_X12_nextToken_x I_3030 J_2632 ri_3031 rj rq) fun (I_3344 : Nat → Int32) (J_3345 : Nat → Int64) (_ : Nat → Nat → Int32) (_ : Nat → Nat → Int64) (_ : Nat → Nat → Option Nat) => ((g_X12_either_L6 rj rq n_2607) x_3057 (1 : Int32) (1 : Int32) I_3344 J_3345 ri_3031)) else (bnV (g_X12_emit (22 : Int32) (0 : Int32) I_3030 J_2632 ri_3031 rj rq) fun (I_3367 : Nat → Int32) (_ : Nat → Int64) (ri_3368 : Nat → Nat → Int32) (_ : Nat → Nat → Int64) (_ : Nat → Nat → Option Nat) => (bnV (g_X12_nextToken_x I_3367 J_2632 ri_3368 rj rq) fun (I_3401 : Nat → Int32) (J_3402 : Nat → Int64) (_ : Nat → Nat → Int32) (_ : Nat → Nat → Int64) (_ : Nat → Nat → Option Nat) => ((g_X12_either_L6 rj rq n_2607) x_3057 (1 : Int32) (1 : Int32) I_3401 J_3402 ri_3368)))) else (bnV (g_X12_nextToken_x I_3030 J_2632 ri_3031 rj rq) fun (I_3299 : Nat → Int32) (J_3300 : Nat → Int64) (_ : Nat → Nat → Int32) (_ : Nat → Nat → Int64) (_ : Nat → Nat → Option Nat) => ((g_X12_either_L6 rj rq n_2607) x_3057 x_1950 (1 : Int32) I_3299 J_3300 ri_3031))) else (if x_3057 = (0 : Int32) then (if x_1950 = (0 : Int32) then ((g_X12_either_L6 rj rq n_2607) x_3057 (0 : Int32) (0 : Int32) I_3030 J_2632 ri_3031) else (bnV (g_X12_emit (22 : Int32) (0 : Int32) I_3030 J_2632 ri_3031 rj rq) fun (I_3245 : Nat → Int32) (_ : Nat → Int64) (ri_3246 : Nat → Nat → Int32) (_ : Nat → Nat → Int64) (_ : Nat → Nat → Option Nat) => ((g_X12_either_L6 rj rq n_2607) x_3057 (0 : Int32) (0 : Int32) I_3245 J_2632 ri_3246))) else (bnV (g_X12_nextToken_x I_3030 J_2632 ri_3031 rj rq) fun (I_3199 : Nat → Int32) (J_3200 : Nat → Int64) (_ : Nat → Nat → Int32) (_ : Nat → Nat → Int64) (_ : Nat → Nat → Option Nat) => ((g_X12_either_L6 rj rq n_2607) x_3057 x_1950 (1 : Int32) I_3199 J_3200 ri_3031)))))) else (if x_3057 = (0 : Int32) then (if x_1950 = (0 : Int32) then ((g_X12_either_L6 rj rq n_2607) x_3057 (0 : Int32) (0 : Int32) I_3030 J_2632 ri_3031) else (bnV (g_X12_emit (22 : Int32) (0 : Int32) I_3030 J_2632 ri_3031 rj rq) fun (I_3138 : Nat → Int32) (_ : Nat → Int64) (ri_3139 : Nat → Nat → Int32) (_ : Nat → Nat → Int64) (_ : Nat → Nat → Option Nat) => ((g_X12_either_L6 rj rq n_2607) x_3057 (0 : Int32) (0 : Int32) I_3138 J_2632 ri_3139))) else (bnV (g_X12_nextToken_x I_3030 J_2632 ri_3031 rj rq) fun (I_3092 : Nat → Int32) (J_3093 : Nat → Int64) (_ : Nat → Nat → Int32) (_ : Nat → Nat → Int64) (_ : Nat → Nat → Option Nat) => ((g_X12_either_L6 rj rq n_2607) x_3057 x_1950 (1 : Int32) I_3092 J_3093 ri_3031))))))))) else (x_2629, I_2631, J_2632, ri_2633, rj, rq)))) := rfl
set_option maxRecDepth 100000 in
def g_X12_either (I : Nat → Int32) (J : Nat → Int64) (ri : Nat → Nat → Int32) (rj : Nat → Nat → Int64) (rq : Nat → Nat → Option Nat) : Int32 × vM := (ap1 (I 391) fun (y_3422 : Int32) => (ap1 (I 393) fun (y_3423 : Int32) => (g_X12_either_L6 rj rq ((2 * tmM (y_3422).toInt (y_3423).toInt + ((1 : Int32)).toInt).toNat + 1) (0 : Int32) (0 : Int32) (1 : Int32) I J ri)))
set_option maxRecDepth 100000 in
theorem g_X12_either_e {I : Nat → Int32} {J : Nat → Int64} {ri : Nat → Nat → Int32} {rj : Nat → Nat → Int64} {rq : Nat → Nat → Option Nat} : g_X12_either I J ri rj rq = (ap1 (I 391) fun (y_3422 : Int32) => (ap1 (I 393) fun (y_3423 : Int32) => (g_X12_either_L6 rj rq ((2 * tmM (y_3422).toInt (y_3423).toInt + ((1 : Int32)).toInt).toNat + 1) (0 : Int32) (0 : Int32) (1 : Int32) I J ri))) := rfl
set_option maxHeartbeats 4000000 in
set_option maxRecDepth 100000 in
theorem s_X12_either (l : Launch) (D : va_G) (t : pq_T) (σ : pq_S) (I : Nat → Nat → Int32) (J : Nat → Nat → Int64) (ri : Nat → Nat → Int32) (rj : Nat → Nat → Int64) (rq : Nat → Nat → Option Nat) (sz : Nat) (tg : Nat → Nat) (hSH : SH σ tg) (hG0 : GT tg I ri) (this : Nat) (hL_this : this ∈ σ.1) (hK_this : σ.2.1 this = 12) (this_a : Nat) (hR_this_a : σ.2.2.1 384 this = some this_a) (hL_this_a : this_a ∈ σ.1) (hK_this_a : σ.2.1 this_a = 13) (hN_this_a : σ.2.2.2 this_a = 12720) (hT_this_a : tg this_a = 384) (this_pile : Nat) (hR_this_pile : σ.2.2.1 400 this = some this_pile) (hL_this_pile : this_pile ∈ σ.1) (hK_this_pile : σ.2.1 this_pile = 13) (hN_this_pile : σ.2.2.2 this_pile = 160) (hT_this_pile : tg this_pile = 400) (bb : Nat) (f0 : Nat → Int32) (fr : Int) (va : Int) (tb : Int) (nn : Int) (K : Int) (hpb : PBz (I 396 this).toInt (I 398 this).toInt (I 402 this).toInt (I 391 this).toInt (I 393 this).toInt (ri this_a) bb f0 fr va tb nn K) : MetI l yX12_either (wa yX12_either cX12_either 6 (some .int)) ({ frames := 7, cells := 0, slots := 0, locals := 154 }) [.ref this] D t σ (I, J, ri, rj, rq) sz 0 0 (fun (r : Int32) (u : pq_S × pq_M) => ∃ I' : Nat → Nat → Int32, ∃ J' : Nat → Nat → Int64, ∃ ri' : Nat → Nat → Int32, u = (σ, I', J', ri', rj, rq) ∧ GM [401, 398, 391, 392, 393, 402] tg σ I ri I' ri' rq ∧ (r.toInt ≠ 0 ∨ (PBz (I' 396 this).toInt (I' 398 this).toInt (I' 402 this).toInt (I' 391 this).toInt (I' 393 this).toInt (ri' this_a) bb f0 fr va (tb + 1) nn K ∧ tmM (I' 391 this).toInt (I' 393 this).toInt ≤ tmM (I 391 this).toInt (I 393 this).toInt)) ∧ g_X12_either (vI 12 σ this I) (vJ 12 σ this J) (vR 12 σ this ri) (vL 12 σ this rj) (vQ 12 σ this rq) = (r, (vI 12 σ this I'), (vJ 12 σ this J'), (vR 12 σ this ri'), (vL 12 σ this rj), (vQ 12 σ this rq)) ∧ FR 12 tg σ this (I, J, ri, rj, rq) (I', J', ri', rj, rq) ∧ rg r 0 3) := by
  refine Met.ofW (cc := cX12_either) (maxL := 6) (ret := (some .int)) (by decide +kernel) rfl ?_
  intro p e s m args below meth c s₁ B hml hv
  obtain ⟨rfl, hsz, hP, hK, hD0, hN⟩ := hv
  have hx := B.exec
  have hb := B.bytes
  have hr := B.returns
  have hts := atoms_spec (ws := (wa yX12_either cX12_either 6 (some .int))) B.pre
  have hown : s.vm.findClass RX12 = some m.cls := findClass_of_methodNamed B.named
  have hlocks := B.notSynchronized
  subst hsz
  have hD : va_D (pq_B t σ (I, J, ri, rj, rq) s.heap.size) (pq_P t σ (I, J, ri, rj, rq)) := hD0.self
  generalize hAe : pq_B t σ (I, J, ri, rj, rq) s.heap.size = A at hD ⊢
  have hA : ∀ q : Nat, s.heap.size ≤ q → A q := fun q h => by rw [← hAe]; exact Or.inr h
  have hS : va_S A s.heap s.heap [] := va_S.rf
  have hG : GM [401, 398, 391, 392, 393, 402] tg σ I ri I ri rq := ⟨hG0, fun _ _ _ => rfl, fun _ _ _ _ _ => rfl, fun _ _ _ _ _ _ => rfl⟩
  have hl := lv_entry ([.ref this]) (n := 6) (Nat.le_of_ble_eq_true rfl)
  rw [lg_entry_eq]
  generalize (lg_sl ([.ref this]) ++ List.replicate (6 - (lg_sl ([.ref this])).length) Slot.unset).toArray = ls at hl ⊢
  have hl : lv_has ls 6 [(0, .ref this)] := hl
  refine q_gen (fun Q hQ => ?_)
  have go : ∀ (H : Heap) (locs : List Loc) (ls : Array Slot), va_P D vwCl (pq_P t σ (I, J, ri, rj, rq)) H → va_D A (pq_P t σ (I, J, ri, rj, rq)) → va_S A s.heap H locs → lv_has ls 6 [(0, .ref this)] → W p l e ({ frames := 7, cells := 0, slots := 0, locals := 154 } : Room) s m (List.toArray ([.ref this] : List Value)) below meth c H locs 0 0 Q (F0 m 0 ls []) := by
    intro H locs ls hP hD hS hl
    have hO_this : this = vo σ 12 this := rfl
    have hVT : VT 12 σ tg this := vt_12 hSH hL_this hK_this
    have hFr : FR 12 tg σ this (I, J, ri, rj, rq) (I, J, ri, rj, rq) := fr_rf
    have hO_this_a : this_a = vrow σ 384 this := vo_k (c := 12) hO_this hR_this_a
    have hO_this_pile : this_pile = vrow σ 400 this := vo_k (c := 12) hO_this hR_this_pile
    obtain ⟨F, hF0⟩ : ∃ F, F = g_X12_either (vI 12 σ this I) (vJ 12 σ this J) (vR 12 σ this ri) (vL 12 σ this rj) (vQ 12 σ this rq) := ⟨_, rfl⟩
    have hF := hF0.trans g_X12_either_e
    have hv0 := PBz_tv hpb
    have ho0 := PBz_op hpb
    refine lv_iconst (v := 0) hx hb dX12_either_0 (by decide +kernel) ?_
    refine lv_istore_n (lv' := [(1, .int 0), (0, .ref this)]) hx hb dX12_either_1 rfl hl (by decide +kernel) rfl (fun ls hl => ?_)
    refine lv_iconst (v := 0) hx hb dX12_either_2 (by decide +kernel) ?_
    refine lv_istore_n (lv' := [(2, .int 0), (1, .int 0), (0, .ref this)]) hx hb dX12_either_3 rfl hl (by decide +kernel) rfl (fun ls hl => ?_)
    refine lv_iconst (v := 1) hx hb dX12_either_4 (by decide +kernel) ?_
    refine lv_istore_n (lv' := [(3, .int 1), (2, .int 0), (1, .int 0), (0, .ref this)]) hx hb dX12_either_5 rfl hl (by decide +kernel) rfl (fun ls hl => ?_)
    have L_2608 : ∀ (n_2607 : Nat) (x_1949 : Int32) (x_1950 : Int32) (x_1951 : Int32) (I_1952 : Nat → Nat → Int32) (J_1953 : Nat → Nat → Int64) (ri_1954 : Nat → Nat → Int32) (H : Heap) (locs : List Loc) (ls : Array Slot), rg x_1949 0 1 → rg x_1950 0 1 → rg x_1951 0 1 → (((x_1951).toInt = 1 → PBz (I_1952 396 this).toInt (I_1952 398 this).toInt (I_1952 402 this).toInt (I_1952 391 this).toInt (I_1952 393 this).toInt (ri_1954 this_a) bb f0 fr va (tb + (x_1949).toInt + (x_1950).toInt) nn (K + (x_1949).toInt + (x_1950).toInt)) ∧ ((x_1951).toInt = 0 → PBz (I_1952 396 this).toInt (I_1952 398 this).toInt (I_1952 402 this).toInt (I_1952 391 this).toInt (I_1952 393 this).toInt (ri_1954 this_a) bb f0 fr va (tb + 1) nn K)) → (tmM (I_1952 391 this).toInt (I_1952 393 this).toInt ≤ tmM (I 391 this).toInt (I 393 this).toInt) → (2 * tmM (I_1952 391 this).toInt (I_1952 393 this).toInt + (x_1951).toInt).toNat < n_2607 → F = g_X12_either_L6 (vL 12 σ this rj) (vQ 12 σ this rq) n_2607 x_1949 x_1950 x_1951 (vI 12 σ this I_1952) (vJ 12 σ this J_1953) (vR 12 σ this ri_1954) → FR 12 tg σ this (I, J, ri, rj, rq) (I_1952, J_1953, ri_1954, rj, rq) → GM [401, 398, 391, 392, 393, 402] tg σ I ri I_1952 ri_1954 rq → va_P D vwCl (pq_P t σ (I_1952, J_1953, ri_1954, rj, rq)) H → va_D A (pq_P t σ (I_1952, J_1953, ri_1954, rj, rq)) → va_S A s.heap H locs → lv_has ls 6 [(0, .ref this), (1, .int x_1949), (2, .int x_1950), (3, .int x_1951)] → W p l e ({ frames := 7, cells := 0, slots := 0, locals := 154 } : Room) s m (List.toArray ([.ref this] : List Value)) below meth c H locs 0 0 Q (F0 m 6 ls []) := by
      intro n_2607
      induction n_2607 with
      | zero => intro x_1949 x_1950 x_1951 I_1952 J_1953 ri_1954 H locs ls h_2615 h_2616 h_2617 hrel_2618 hrel_2619 hm_2606 hF hFr hG hP hD hS hl; exact absurd hm_2606 (Nat.not_lt_zero _)
      | succ n_2607 ih_2609 =>
        intro x_1949 x_1950 x_1951 I_1952 J_1953 ri_1954 H locs ls h_2615 h_2616 h_2617 hrel_2618 hrel_2619 hm_2606 hF hFr hG hP hD hS hl
        have uh_2615 := h_2615.1
        have vh_2615 := h_2615.2
        have uh_2616 := h_2616.1
        have vh_2616 := h_2616.2
        have uh_2617 := h_2617.1
        have vh_2617 := h_2617.2
        replace hF := hF.trans g_X12_either_L6_e
        refine lv_iload_n hx hb dX12_either_6 rfl (lv_at hl 3 rfl) ?_
        refine lv_if_eq (tgt := 119) hx hb dX12_either_7 (by decide +kernel) (fun c_2620 => ?_) (fun c_2620 => ?_)
        · replace hF := hF.trans (if_pos c_2620)
          have tc_2625 : (x_1951).toInt = 0 := congrArg Int32.toInt c_2620
          have h_2626 : rg x_1951 0 0 := rg_and h_2617 (rg_of_eq c_2620 (rg_k (0 : Int32) 0 rfl)) (by decide +kernel)
          have uh_2626 := h_2626.1
          have vh_2626 := h_2626.2
          refine lv_iconst (v := 0) hx hb dX12_either_119 (by decide +kernel) ?_
          subst hQ
          exact W.iret (v := 0) hx hb hr (fun t1 ht hW => ⟨⟨0, (σ, I_1952, J_1953, ri_1954, rj, rq), rfl, ⟨I_1952, J_1953, ri_1954, rfl, hG, (Or.inr ⟨hrel_2618.2 (by omega), hrel_2619⟩), (hF0.symm.trans hF), hFr, (rg_w (rg_k (0 : Int32) 0 rfl) (by decide +kernel))⟩, by rw [ht]; exact hP, va_K.moved hW.alike hK, hD⟩, hS.F ht⟩) hS.2.2 dX12_either_120
        · replace hF := hF.trans (if_neg c_2620)
          have tc_2627 : (x_1951).toInt ≠ 0 := fun q => c_2620 (Int32.toInt_inj.mp q)
          have h_2628 : rg x_1951 1 1 := rg_ne c_2620 h_2617 0 rfl (by decide +kernel)
          have uh_2628 := h_2628.1
          have vh_2628 := h_2628.2
          refine lv_aload_n hx hb dX12_either_10 rfl (lv_at hl 0 rfl) ?_
          have hpbA := hrel_2618.1 (by omega)
          refine pk_i (va_runV (As := []) (rest := []) ⟨hx, hb, hml, hown, hts⟩ (s_X12_ask l D t σ I_1952 J_1953 ri_1954 rj rq H.size tg hSH hG.1 this hL_this hK_this this_a hR_this_a hL_this_a hK_this_a hN_this_a hT_this_a this_pile hR_this_pile hL_this_pile hK_this_pile hN_this_pile hT_this_pile bb f0 fr va (tb + (x_1949).toInt + (x_1950).toInt) nn (K + (x_1949).toInt + (x_1950).toInt) (by assumption)) (cwV 0 hts (tw_V tw_875 tw_876 tw_877 tw_5 tw_878) rfl rfl rfl cv_yX12_ask_0 ⟨Nat.le_of_ble_eq_true rfl, Nat.le_of_ble_eq_true rfl⟩) ⟨pq_blind, pq_recv hK hP hL_this hK_this (by decide +kernel) rfl, pq_pre hK hN hP hD⟩ rfl rfl hl.1 rfl (lv_room (Nat.le_of_ble_eq_true rfl)) dX12_either_11 ⟨Nat.le_of_ble_eq_true rfl, Nat.le_of_ble_eq_true rfl⟩) hD hS hA (fun x_2629 σ1 μ1 H locs hw_2630 hP hD hS => ?_)
          obtain ⟨I_2631, J_2632, ri_2633, hu_2634, hg_2635, hp_2637, hfn_2638, hfr_2639, hr_2636⟩ := hw_2630
          obtain ⟨hu_2634a, hu_2634b⟩ := Prod.mk.inj hu_2634
          rw [hu_2634a, hu_2634b] at hP hD
          replace hF := hF.trans (bn_n hfn_2638)
          replace hFr := fr_tr hFr hfr_2639
          have hG := GM.tr hG hg_2635 (by decide +kernel)
          have tt_2640 : (I_2631 396 this).toInt = (I_1952 396 this).toInt := by rw [hg_2635.2.1 396 (by decide +kernel) (by decide +kernel)]
          have tt_2641 : (I_2631 397 this).toInt = (I_1952 397 this).toInt := by rw [hg_2635.2.1 397 (by decide +kernel) (by decide +kernel)]
          refine lv_istore (lv' := [(4, .int x_2629), (0, .ref this), (1, .int x_1949), (2, .int x_1950), (3, .int x_1951)]) hx hb dX12_either_14 hl (by decide +kernel) rfl (fun ls hl => ?_)
          refine lv_iload hx hb dX12_either_16 (lv_at hl 0 rfl) ?_
          refine lv_if_eq (tgt := 24) hx hb dX12_either_18 (by decide +kernel) (fun c_2642 => ?_) (fun c_2642 => ?_)
          · replace hF := hF.trans (if_pos c_2642)
            have tc_2647 : (x_2629).toInt = 0 := congrArg Int32.toInt c_2642
            have h_2648 : rg x_2629 0 0 := rg_and hr_2636 (rg_of_eq c_2642 (rg_k (0 : Int32) 0 rfl)) (by decide +kernel)
            have uh_2648 := h_2648.1
            have vh_2648 := h_2648.2
            have hpbB := (hp_2637.resolve_left (fun q => q (by omega))).1
            have htmA : tmM (I_2631 391 this).toInt (I_2631 393 this).toInt ≤ tmM (I 391 this).toInt (I 393 this).toInt := Int.le_trans (hp_2637.resolve_left (fun q => q (by omega))).2 hrel_2619
            refine lv_iload_n hx hb dX12_either_24 rfl (lv_at hl 2 rfl) ?_
            refine lv_if_eq (tgt := 35) hx hb dX12_either_25 (by decide +kernel) (fun c_2649 => ?_) (fun c_2649 => ?_)
            · replace hF := hF.trans (if_pos c_2649)
              have tc_2654 : (x_1949).toInt = 0 := congrArg Int32.toInt c_2649
              have h_2655 : rg x_1949 0 0 := rg_and h_2615 (rg_of_eq c_2649 (rg_k (0 : Int32) 0 rfl)) (by decide +kernel)
              have uh_2655 := h_2655.1
              have vh_2655 := h_2655.2
              have hpbC : PBz (I_2631 396 this).toInt (I_2631 398 this).toInt (I_2631 402 this).toInt (I_2631 391 this).toInt (I_2631 393 this).toInt (ri_2633 this_a) bb f0 fr va (tb + (x_1950).toInt + 1) nn (K + (x_1950).toInt) := by rw [show tb + (x_1950).toInt + 1 = (tb + (x_1949).toInt + (x_1950).toInt + 1) from by omega, show K + (x_1950).toInt = (K + (x_1949).toInt + (x_1950).toInt) from by omega]; exact hpbB
              refine lv_aload_n hx hb dX12_either_35 rfl (lv_at hl 1 rfl) ?_
              refine lv_bipush (v := 97) hx hb dX12_either_36 (by decide +kernel) ?_
              refine lv_bipush (v := 110) hx hb dX12_either_38 (by decide +kernel) ?_
              refine lv_bipush (v := 100) hx hb dX12_either_40 (by decide +kernel) ?_
              refine pk_l (va_runS (As := [.int 97, .int 110, .int 100]) (rest := [.ref this]) ⟨hx, hb, hml, hown, hts⟩ (s_X12_w3_x l D t σ I_2631 J_2632 ri_2633 rj rq H.size tg hSH hG.1 (97 : Int32) (110 : Int32) (100 : Int32)) (va_cwS 3 hts (tw_S tw_864 tw_865 tw_5 tw_866) rfl rfl rfl cd_yX12_w3_3 ⟨Nat.le_of_ble_eq_true rfl, Nat.le_of_ble_eq_true rfl⟩) ⟨pq_blind, pq_pre hK hN hP hD⟩ rfl rfl hl.1 rfl (lv_room (Nat.le_of_ble_eq_true rfl)) dX12_either_42 ⟨Nat.le_of_ble_eq_true rfl, Nat.le_of_ble_eq_true rfl⟩) hD hS hA (fun x_2656 σ1 μ1 H locs hw_2657 hP hD hS => ?_)
              obtain ⟨hu_2658, hfn_2661⟩ := hw_2657
              obtain ⟨hu_2658a, hu_2658b⟩ := Prod.mk.inj hu_2658
              rw [hu_2658a, hu_2658b] at hP hD
              replace hF := hF.trans (ap_n hfn_2661.symm)
              refine pk_i (va_runV (As := [.long x_2656]) (rest := []) ⟨hx, hb, hml, hown, hts⟩ (s_X12_isWord_x l D t σ I_2631 J_2632 ri_2633 rj rq H.size tg hSH hG.1 this x_2656 hL_this hK_this) (cwV 1 hts (tw_V tw_879 tw_880 tw_881 tw_5 tw_882) rfl rfl rfl cv_yX12_isWord_1 ⟨Nat.le_of_ble_eq_true rfl, Nat.le_of_ble_eq_true rfl⟩) ⟨pq_blind, pq_recv hK hP hL_this hK_this (by decide +kernel) rfl, pq_pre hK hN hP hD⟩ rfl rfl hl.1 rfl (lv_room (Nat.le_of_ble_eq_true rfl)) dX12_either_45 ⟨Nat.le_of_ble_eq_true rfl, Nat.le_of_ble_eq_true rfl⟩) hD hS hA (fun x_2663 σ1 μ1 H locs hw_2664 hP hD hS => ?_)
              obtain ⟨hu_2665, hfn_2668, hr_2667⟩ := hw_2664
              obtain ⟨hu_2665a, hu_2665b⟩ := Prod.mk.inj hu_2665
              rw [hu_2665a, hu_2665b] at hP hD
              replace hF := hF.trans (bn_n hfn_2668)
              have h_2670 : rg x_2663 0 1 := by rcases hr_2667 with ⟨q, -⟩ | ⟨q, -⟩ <;> rw [q] <;> exact ⟨by decide +kernel, by decide +kernel⟩
              have uh_2670 := h_2670.1
              have vh_2670 := h_2670.2
              refine lv_istore_n (lv' := [(1, .int x_2663), (4, .int x_2629), (0, .ref this), (2, .int x_1950), (3, .int x_1951)]) hx hb dX12_either_48 rfl hl (by decide +kernel) rfl (fun ls hl => ?_)
              refine lv_aload_n hx hb dX12_either_49 rfl (lv_at hl 2 rfl) ?_
              refine pg_f (v := .int (I_2631 393 this)) (C := RX12) (T := TX12) (N := 31) hx hb hts (tw_i inlX12) hown hK hP hL_this hK_this (by decide +kernel) rfl 9 (by decide +kernel) (hts _ (tw_c tw_831)) rfl dX12_either_50 ?_
              replace hF := hF.trans (ap_n (vI_e (f := 393) hO_this (by decide +kernel)))
              refine lv_iconst (v := 2) hx hb dX12_either_53 (by decide +kernel) ?_
              refine lv_icmp_ne (tgt := 72) hx hb dX12_either_54 (by decide +kernel) (fun c_2672 => ?_) (fun c_2672 => ?_)
              · replace hF := hF.trans (if_neg c_2672)
                have tc_2676 : (I_2631 393 this).toInt ≠ 2 := fun q => c_2672 (Int32.toInt_inj.mp q)
                refine lv_iconst (v := 0) hx hb dX12_either_72 (by decide +kernel) ?_
                refine lv_istore (lv' := [(5, .int 0), (1, .int x_2663), (4, .int x_2629), (0, .ref this), (2, .int x_1950), (3, .int x_1951)]) hx hb dX12_either_73 hl (by decide +kernel) rfl (fun ls hl => ?_)
                refine lv_iload_n hx hb dX12_either_75 rfl (lv_at hl 1 rfl) ?_
                refine lv_if_ne (tgt := 93) hx hb dX12_either_76 (by decide +kernel) (fun c_2677 => ?_) (fun c_2677 => ?_)
                · replace hF := hF.trans (if_neg c_2677)
                  have f_2684 := (hr_2667.resolve_right (fun q => c_2677 q.1)).2
                  have tc_2685 : (x_2663).toInt ≠ 0 := fun q => c_2677 (Int32.toInt_inj.mp q)
                  have h_2686 : rg x_2663 1 1 := rg_ne c_2677 h_2670 0 rfl (by decide +kernel)
                  have uh_2686 := h_2686.1
                  have vh_2686 := h_2686.2
                  refine lv_iload_n hx hb dX12_either_93 rfl (lv_at hl 1 rfl) ?_
                  refine lv_if_ne (tgt := 102) hx hb dX12_either_94 (by decide +kernel) (fun c_2687 => ?_) (fun c_2687 => ?_)
                  · have f_2692 := (hr_2667.resolve_right (fun q => c_2687 q.1)).2
                    have tc_2693 : (x_2663).toInt ≠ 0 := fun q => c_2687 (Int32.toInt_inj.mp q)
                    refine lv_iconst (v := 1) hx hb dX12_either_102 (by decide +kernel) ?_
                    refine lv_goto (tgt := 107) hx hb dX12_either_103 (by decide +kernel) ?_
                    refine lv_istore_n (lv' := [(3, .int 1), (5, .int 0), (1, .int x_2663), (4, .int x_2629), (0, .ref this), (2, .int x_1950)]) hx hb dX12_either_107 rfl hl (by decide +kernel) rfl (fun ls hl => ?_)
                    refine lv_iload_n hx hb dX12_either_108 rfl (lv_at hl 0 rfl) ?_
                    refine lv_if_eq (tgt := 116) hx hb dX12_either_109 (by decide +kernel) (fun c_2694 => absurd c_2694 (by decide +kernel)) (fun c_2694 => ?_)
                    refine lv_aload_n hx hb dX12_either_112 rfl (lv_at hl 4 rfl) ?_
                    obtain ⟨w_2695, hR_w_2695, hL_w_2695, hK_w_2695, hN_w_2695, hT_w_2695⟩ := sh_a hSH 387 (ci := 12) (kd := 13) (len := 300) rfl (by decide +kernel) hL_this hK_this
                    have hO_w_2695 : w_2695 = vrow σ 387 this := vo_k (c := 12) hO_this hR_w_2695
                    refine pk_v (va_runV (As := []) (rest := []) ⟨hx, hb, hml, hown, hts⟩ (s_X12_nextToken_x l D t σ I_2631 J_2632 ri_2633 rj rq H.size tg hSH hG.1 this hL_this hK_this w_2695 hR_w_2695 hL_w_2695 hK_w_2695 hN_w_2695 hT_w_2695) (cwV 0 hts (tw_V tw_832 tw_833 tw_834 tw_5 tw_835) rfl rfl rfl cv_yX12_nextToken_0 ⟨Nat.le_of_ble_eq_true rfl, Nat.le_of_ble_eq_true rfl⟩) ⟨pq_blind, pq_recv hK hP hL_this hK_this (by decide +kernel) rfl, pq_pre hK hN hP hD⟩ rfl rfl hl.1 rfl (lv_room (Nat.le_of_ble_eq_true rfl)) dX12_either_113 ⟨Nat.le_of_ble_eq_true rfl, Nat.le_of_ble_eq_true rfl⟩) hD hS hA (fun σ1 μ1 H locs hw_2697 hP hD hS => ?_)
                    obtain ⟨I_2698, J_2699, hu_2700, hg_2701, hp_2703, hp_2704, hp_2705, hfn_2706, hfr_2707⟩ := hw_2697
                    obtain ⟨hu_2700a, hu_2700b⟩ := Prod.mk.inj hu_2700
                    rw [hu_2700a, hu_2700b] at hP hD
                    replace hF := hF.trans (bv_n hfn_2706)
                    replace hFr := fr_tr hFr hfr_2707
                    have tt_2708 := hp_2703
                    have tt_2709 := hp_2704
                    have tt_2710 := hp_2705
                    have tt_2711 : (I_2698 391 this).toInt ≤ 300 := by have z := hg_2701.1.1 391 this; exact z.2
                    have hG := GM.tr hG hg_2701 (by decide +kernel)
                    have tt_2712 : (I_2698 396 this).toInt = (I_2631 396 this).toInt := by rw [hg_2701.2.1 396 (by decide +kernel) (by decide +kernel)]
                    have tt_2713 : (I_2698 398 this).toInt = (I_2631 398 this).toInt := by rw [hg_2701.2.1 398 (by decide +kernel) (by decide +kernel)]
                    have tt_2714 : (I_2698 401 this).toInt = (I_2631 401 this).toInt := by rw [hg_2701.2.1 401 (by decide +kernel) (by decide +kernel)]
                    have tt_2715 : (I_2698 402 this).toInt = (I_2631 402 this).toInt := by rw [hg_2701.2.1 402 (by decide +kernel) (by decide +kernel)]
                    have tt_2716 : (I_2698 397 this).toInt = (I_2631 397 this).toInt := by rw [hg_2701.2.1 397 (by decide +kernel) (by decide +kernel)]
                    refine lv_goto (tgt := 6) hx hb dX12_either_116 (by decide +kernel) ?_
                    exact ih_2609 x_2663 x_1950 (1 : Int32) I_2698 J_2699 ri_2633 _ _ _ (rg_w h_2686 (by decide +kernel)) (rg_w h_2616 (by decide +kernel)) (rg_w (rg_k (1 : Int32) 1 rfl) (by decide +kernel)) (by have zc0 : (0 : Int32).toInt = 0 := rfl; have zc1 : (1 : Int32).toInt = 1 := rfl; exact ⟨fun _ => by rw [show tb + (x_2663).toInt + (x_1950).toInt = (tb + (x_1950).toInt + 1) from by omega, show K + (x_2663).toInt + (x_1950).toInt = (K + (x_1950).toInt) + 1 from by omega]; exact PBz_tok hpbC (by omega) (by omega) (by omega) (by omega) (by omega) (by omega) (by omega) rfl, fun q => absurd q (by decide +kernel)⟩) (Int.le_of_lt (Int.lt_of_lt_of_le (tm_lt (by omega) (by omega) (by omega)) htmA)) (by have zc0 : (0 : Int32).toInt = 0 := rfl; have zc1 : (1 : Int32).toInt = 1 := rfl; exact tm_ms2' hm_2606 ⟨Int.le_of_lt (Int.lt_of_lt_of_le (tm_lt (s := (I_2631 391 this).toInt) (k := (I_2631 393 this).toInt) (by omega) (by omega) (by omega)) (tm_lec (hp_2637.resolve_left (fun q => q (by omega))).2 (by omega) (by omega))), Or.inl (Int.lt_of_lt_of_le (tm_lt (s := (I_2631 391 this).toInt) (k := (I_2631 393 this).toInt) (by omega) (by omega) (by omega)) (tm_lec (hp_2637.resolve_left (fun q => q (by omega))).2 (by omega) (by omega)))⟩ (tm_b ((hG.1.1 391 this).2)) (by omega) (by omega)) hF hFr hG hP hD hS (lv_sub hl [4, 2, 5, 0] rfl)
                  · have f_2717 := (hr_2667.resolve_left (fun q => absurd (q.1.symm.trans c_2687) (by decide +kernel))).2
                    have tc_2718 : (x_2663).toInt = 0 := congrArg Int32.toInt c_2687
                    exact (rg_empty (rg_and h_2686 (rg_of_eq c_2687 (rg_k (0 : Int32) 0 rfl)) (lo := 1) (hi := 0) (by decide +kernel)) (by decide +kernel)).elim
                · replace hF := hF.trans (if_pos c_2677)
                  have f_2719 := (hr_2667.resolve_left (fun q => absurd (q.1.symm.trans c_2677) (by decide +kernel))).2
                  have tc_2720 : (x_2663).toInt = 0 := congrArg Int32.toInt c_2677
                  have h_2721 : rg x_2663 0 0 := rg_and h_2670 (rg_of_eq c_2677 (rg_k (0 : Int32) 0 rfl)) (by decide +kernel)
                  have uh_2721 := h_2721.1
                  have vh_2721 := h_2721.2
                  refine lv_iload_n hx hb dX12_either_79 rfl (lv_at hl 4 rfl) ?_
                  refine lv_if_eq (tgt := 90) hx hb dX12_either_80 (by decide +kernel) (fun c_2722 => ?_) (fun c_2722 => ?_)
                  · replace hF := hF.trans (if_pos c_2722)
                    have tc_2727 : (x_1950).toInt = 0 := congrArg Int32.toInt c_2722
                    have h_2728 : rg x_1950 0 0 := rg_and h_2616 (rg_of_eq c_2722 (rg_k (0 : Int32) 0 rfl)) (by decide +kernel)
                    have uh_2728 := h_2728.1
                    have vh_2728 := h_2728.2
                    have hpbD : PBz (I_2631 396 this).toInt (I_2631 398 this).toInt (I_2631 402 this).toInt (I_2631 391 this).toInt (I_2631 393 this).toInt (ri_2633 this_a) bb f0 fr va (tb + 1) nn K := by have q := hpbC; rw [show (tb + (x_1950).toInt + 1) = tb + 1 from by omega, show (K + (x_1950).toInt) = K from by omega] at q; exact q
                    refine lv_iload hx hb dX12_either_90 (lv_at hl 0 rfl) ?_
                    refine lv_istore_n (lv' := [(2, .int 0), (5, .int 0), (1, .int x_2663), (4, .int x_2629), (0, .ref this), (3, .int x_1951)]) hx hb dX12_either_92 rfl hl (by decide +kernel) rfl (fun ls hl => ?_)
                    refine lv_iload_n hx hb dX12_either_93 rfl (lv_at hl 2 rfl) ?_
                    refine lv_if_ne (tgt := 102) hx hb dX12_either_94 (by decide +kernel) (fun c_2729 => ?_) (fun c_2729 => ?_)
                    · have f_2734 := (hr_2667.resolve_right (fun q => c_2729 q.1)).2
                      have tc_2735 : (x_2663).toInt ≠ 0 := fun q => c_2729 (Int32.toInt_inj.mp q)
                      exact (rg_empty (rg_ne c_2729 h_2721 0 rfl (lo := 1) (hi := (-1)) (by decide +kernel)) (by decide +kernel)).elim
                    · have f_2736 := (hr_2667.resolve_left (fun q => absurd (q.1.symm.trans c_2729) (by decide +kernel))).2
                      have tc_2737 : (x_2663).toInt = 0 := congrArg Int32.toInt c_2729
                      refine lv_iload hx hb dX12_either_97 (lv_at hl 1 rfl) ?_
                      refine lv_if_eq (tgt := 106) hx hb dX12_either_99 (by decide +kernel) (fun c_2738 => ?_) (fun c_2738 => absurd c_2738 (by decide +kernel))
                      refine lv_iconst (v := 0) hx hb dX12_either_106 (by decide +kernel) ?_
                      refine lv_istore_n (lv' := [(3, .int 0), (2, .int 0), (5, .int 0), (1, .int x_2663), (4, .int x_2629), (0, .ref this)]) hx hb dX12_either_107 rfl hl (by decide +kernel) rfl (fun ls hl => ?_)
                      refine lv_iload_n hx hb dX12_either_108 rfl (lv_at hl 0 rfl) ?_
                      refine lv_if_eq (tgt := 116) hx hb dX12_either_109 (by decide +kernel) (fun c_2739 => ?_) (fun c_2739 => absurd c_2739 (by decide +kernel))
                      refine lv_goto (tgt := 6) hx hb dX12_either_116 (by decide +kernel) ?_
                      exact ih_2609 x_2663 (0 : Int32) (0 : Int32) I_2631 J_2632 ri_2633 _ _ _ (rg_w h_2721 (by decide +kernel)) (rg_w (rg_k (0 : Int32) 0 rfl) (by decide +kernel)) (rg_w (rg_k (0 : Int32) 0 rfl) (by decide +kernel)) (by have zc0 : (0 : Int32).toInt = 0 := rfl; have zc1 : (1 : Int32).toInt = 1 := rfl; exact ⟨fun q => absurd q (by decide +kernel), fun _ => PBz_cg hpbD (by omega) (by omega) (by omega) (by omega) (by omega) rfl⟩) htmA (by have zc0 : (0 : Int32).toInt = 0 := rfl; have zc1 : (1 : Int32).toInt = 1 := rfl; exact tm_ms2' hm_2606 ⟨tm_lec (hp_2637.resolve_left (fun q => q (by omega))).2 (by omega) (by omega), Or.inr (by omega)⟩ (tm_b ((hG.1.1 391 this).2)) (by omega) (by omega)) hF hFr hG hP hD hS (lv_sub hl [5, 3, 1, 0] rfl)
                  · replace hF := hF.trans (if_neg c_2722)
                    have tc_2740 : (x_1950).toInt ≠ 0 := fun q => c_2722 (Int32.toInt_inj.mp q)
                    have h_2741 : rg x_1950 1 1 := rg_ne c_2722 h_2616 0 rfl (by decide +kernel)
                    have uh_2741 := h_2741.1
                    have vh_2741 := h_2741.2
                    refine lv_aload_n hx hb dX12_either_83 rfl (lv_at hl 3 rfl) ?_
                    refine lv_bipush (v := 22) hx hb dX12_either_84 (by decide +kernel) ?_
                    refine lv_iconst (v := 0) hx hb dX12_either_86 (by decide +kernel) ?_
                    have hq1 := PBz_t hpbC
                    have hq2 := PBz_w hpbC (Or.inr (by omega))
                    refine pk_v (va_runV (As := [.int 22, .int 0]) (rest := []) ⟨hx, hb, hml, hown, hts⟩ (s_X12_emit l D t σ I_2631 J_2632 ri_2633 rj rq H.size tg hSH hG.1 this (22 : Int32) (0 : Int32) hL_this hK_this this_a hR_this_a hL_this_a hK_this_a hN_this_a hT_this_a (by omega) (by omega)) (cwV 2 hts (tw_V tw_905 tw_906 tw_907 tw_5 tw_908) rfl rfl rfl cv_yX12_emit_2 ⟨Nat.le_of_ble_eq_true rfl, Nat.le_of_ble_eq_true rfl⟩) ⟨pq_blind, pq_recv hK hP hL_this hK_this (by decide +kernel) rfl, pq_pre hK hN hP hD⟩ rfl rfl hl.1 rfl (lv_room (Nat.le_of_ble_eq_true rfl)) dX12_either_87 ⟨Nat.le_of_ble_eq_true rfl, Nat.le_of_ble_eq_true rfl⟩) hD hS hA (fun σ1 μ1 H locs hw_2743 hP hD hS => ?_)
                    obtain ⟨I_2744, ri_2745, hu_2746, hg_2747, hp_2749, hp_2750, hp_2751, hp_2752, hfn_2753, hfr_2754⟩ := hw_2743
                    obtain ⟨hu_2746a, hu_2746b⟩ := Prod.mk.inj hu_2746
                    rw [hu_2746a, hu_2746b] at hP hD
                    replace hF := hF.trans (bv_n hfn_2753)
                    replace hFr := fr_tr hFr hfr_2754
                    obtain ⟨v_2755, ev_2755, hv_2755⟩ := hp_2749
                    have tt_2756 : (I_2744 398 this).toInt = (I_2631 398 this).toInt + 1 := by rw [ev_2755, pq_us]; exact hv_2755
                    have tt_2757 : (I_2744 403 this).toInt = (I_2631 403 this).toInt := by rw [ev_2755, pq_uf _ _ _ (by decide +kernel)]
                    have hG := GM.tr hG hg_2747 (by decide +kernel)
                    have tt_2758 : (I_2744 396 this).toInt = (I_2631 396 this).toInt := by rw [hg_2747.2.1 396 (by decide +kernel) (by decide +kernel)]
                    have tt_2759 : (I_2744 401 this).toInt = (I_2631 401 this).toInt := by rw [hg_2747.2.1 401 (by decide +kernel) (by decide +kernel)]
                    have tt_2760 : (I_2744 402 this).toInt = (I_2631 402 this).toInt := by rw [hg_2747.2.1 402 (by decide +kernel) (by decide +kernel)]
                    have tt_2761 : (I_2744 391 this).toInt = (I_2631 391 this).toInt := by rw [hg_2747.2.1 391 (by decide +kernel) (by decide +kernel)]
                    have tt_2762 : (I_2744 393 this).toInt = (I_2631 393 this).toInt := by rw [hg_2747.2.1 393 (by decide +kernel) (by decide +kernel)]
                    have tt_2763 : (I_2744 397 this).toInt = (I_2631 397 this).toInt := by rw [hg_2747.2.1 397 (by decide +kernel) (by decide +kernel)]
                    have hpbD : PBz (I_2744 396 this).toInt (I_2744 398 this).toInt (I_2744 402 this).toInt (I_2744 391 this).toInt (I_2744 393 this).toInt (ri_2745 this_a) bb f0 fr va (tb + 1) nn K := by have zc0 : (0 : Int32).toInt = 0 := rfl; have zc1 : (1 : Int32).toInt = 1 := rfl; have zo : (22 : Int32).toInt = 22 := rfl; exact PBz_em (x := 22) (by rw [show K + 1 = (K + (x_1950).toInt) from by omega]; exact hpbC) (by omega) (fun j hj => hp_2750 j (by omega)) (by rw [show (I_2631 396 this).toInt + 250 + 2 * (I_2631 398 this).toInt = (I_2631 396 this).toInt + 250 + 2 * (I_2631 398 this).toInt from by omega]; exact hp_2751) (by omega) (by omega) (by omega) (by omega) (by omega) (by omega)
                    refine lv_iload hx hb dX12_either_90 (lv_at hl 0 rfl) ?_
                    refine lv_istore_n (lv' := [(2, .int 0), (5, .int 0), (1, .int x_2663), (4, .int x_2629), (0, .ref this), (3, .int x_1951)]) hx hb dX12_either_92 rfl hl (by decide +kernel) rfl (fun ls hl => ?_)
                    refine lv_iload_n hx hb dX12_either_93 rfl (lv_at hl 2 rfl) ?_
                    refine lv_if_ne (tgt := 102) hx hb dX12_either_94 (by decide +kernel) (fun c_2764 => ?_) (fun c_2764 => ?_)
                    · have f_2769 := (hr_2667.resolve_right (fun q => c_2764 q.1)).2
                      have tc_2770 : (x_2663).toInt ≠ 0 := fun q => c_2764 (Int32.toInt_inj.mp q)
                      exact (rg_empty (rg_ne c_2764 h_2721 0 rfl (lo := 1) (hi := (-1)) (by decide +kernel)) (by decide +kernel)).elim
                    · have f_2771 := (hr_2667.resolve_left (fun q => absurd (q.1.symm.trans c_2764) (by decide +kernel))).2
                      have tc_2772 : (x_2663).toInt = 0 := congrArg Int32.toInt c_2764
                      refine lv_iload hx hb dX12_either_97 (lv_at hl 1 rfl) ?_
                      refine lv_if_eq (tgt := 106) hx hb dX12_either_99 (by decide +kernel) (fun c_2773 => ?_) (fun c_2773 => absurd c_2773 (by decide +kernel))
                      refine lv_iconst (v := 0) hx hb dX12_either_106 (by decide +kernel) ?_
                      refine lv_istore_n (lv' := [(3, .int 0), (2, .int 0), (5, .int 0), (1, .int x_2663), (4, .int x_2629), (0, .ref this)]) hx hb dX12_either_107 rfl hl (by decide +kernel) rfl (fun ls hl => ?_)
                      refine lv_iload_n hx hb dX12_either_108 rfl (lv_at hl 0 rfl) ?_
                      refine lv_if_eq (tgt := 116) hx hb dX12_either_109 (by decide +kernel) (fun c_2774 => ?_) (fun c_2774 => absurd c_2774 (by decide +kernel))
                      refine lv_goto (tgt := 6) hx hb dX12_either_116 (by decide +kernel) ?_
                      exact ih_2609 x_2663 (0 : Int32) (0 : Int32) I_2744 J_2632 ri_2745 _ _ _ (rg_w h_2721 (by decide +kernel)) (rg_w (rg_k (0 : Int32) 0 rfl) (by decide +kernel)) (rg_w (rg_k (0 : Int32) 0 rfl) (by decide +kernel)) (by have zc0 : (0 : Int32).toInt = 0 := rfl; have zc1 : (1 : Int32).toInt = 1 := rfl; exact ⟨fun q => absurd q (by decide +kernel), fun _ => PBz_cg hpbD (by omega) (by omega) (by omega) (by omega) (by omega) rfl⟩) (tm_lec htmA (by omega) (by omega)) (by have zc0 : (0 : Int32).toInt = 0 := rfl; have zc1 : (1 : Int32).toInt = 1 := rfl; exact tm_ms2' hm_2606 ⟨tm_lec (hp_2637.resolve_left (fun q => q (by omega))).2 (by omega) (by omega), Or.inr (by omega)⟩ (tm_b ((hG.1.1 391 this).2)) (by omega) (by omega)) hF hFr hG hP hD hS (lv_sub hl [5, 3, 1, 0] rfl)
              · replace hF := hF.trans (if_pos c_2672)
                have tc_2775 : (I_2631 393 this).toInt = 2 := congrArg Int32.toInt c_2672
                have h_2776 : rg (I_2631 393 this) 2 2 := rg_and (rg_full _) (rg_of_eq c_2672 (rg_k (2 : Int32) 2 rfl)) (by decide +kernel)
                have uh_2776 := h_2776.1
                have vh_2776 := h_2776.2
                refine lv_aload_n hx hb dX12_either_57 rfl (lv_at hl 2 rfl) ?_
                refine pg_f (v := .long (J_2632 395 this)) (C := RX12) (T := TX12) (N := 31) hx hb hts (tw_i inlX12) hown hK hP hL_this hK_this (by decide +kernel) rfl 11 (by decide +kernel) (hts _ (tw_c tw_838)) rfl dX12_either_58 ?_
                replace hF := hF.trans (ap_n (vJ_e (f := 395) hO_this (by decide +kernel)))
                refine lv_ldc2 hx hb hown (hts _ (tw_c tw_874)) dX12_either_61 ?_
                refine W.lcmp hx hb dX12_either_64 ?_
                refine lv_topi (fun x_2778 ex_2778 => ?_)
                replace hF := hF.trans (ap_n ex_2778)
                refine lv_if_ne (tgt := 72) hx hb dX12_either_65 (by decide +kernel) (fun c_2779 => ?_) (fun c_2779 => ?_)
                · replace hF := hF.trans (if_neg c_2779)
                  have tc_2783 : (x_2778).toInt ≠ 0 := fun q => c_2779 (Int32.toInt_inj.mp q)
                  refine lv_iconst (v := 0) hx hb dX12_either_72 (by decide +kernel) ?_
                  refine lv_istore (lv' := [(5, .int 0), (1, .int x_2663), (4, .int x_2629), (0, .ref this), (2, .int x_1950), (3, .int x_1951)]) hx hb dX12_either_73 hl (by decide +kernel) rfl (fun ls hl => ?_)
                  refine lv_iload_n hx hb dX12_either_75 rfl (lv_at hl 1 rfl) ?_
                  refine lv_if_ne (tgt := 93) hx hb dX12_either_76 (by decide +kernel) (fun c_2784 => ?_) (fun c_2784 => ?_)
                  · replace hF := hF.trans (if_neg c_2784)
                    have f_2791 := (hr_2667.resolve_right (fun q => c_2784 q.1)).2
                    have tc_2792 : (x_2663).toInt ≠ 0 := fun q => c_2784 (Int32.toInt_inj.mp q)
                    have h_2793 : rg x_2663 1 1 := rg_ne c_2784 h_2670 0 rfl (by decide +kernel)
                    have uh_2793 := h_2793.1
                    have vh_2793 := h_2793.2
                    refine lv_iload_n hx hb dX12_either_93 rfl (lv_at hl 1 rfl) ?_
                    refine lv_if_ne (tgt := 102) hx hb dX12_either_94 (by decide +kernel) (fun c_2794 => ?_) (fun c_2794 => ?_)
                    · have f_2799 := (hr_2667.resolve_right (fun q => c_2794 q.1)).2
                      have tc_2800 : (x_2663).toInt ≠ 0 := fun q => c_2794 (Int32.toInt_inj.mp q)
                      refine lv_iconst (v := 1) hx hb dX12_either_102 (by decide +kernel) ?_
                      refine lv_goto (tgt := 107) hx hb dX12_either_103 (by decide +kernel) ?_
                      refine lv_istore_n (lv' := [(3, .int 1), (5, .int 0), (1, .int x_2663), (4, .int x_2629), (0, .ref this), (2, .int x_1950)]) hx hb dX12_either_107 rfl hl (by decide +kernel) rfl (fun ls hl => ?_)
                      refine lv_iload_n hx hb dX12_either_108 rfl (lv_at hl 0 rfl) ?_
                      refine lv_if_eq (tgt := 116) hx hb dX12_either_109 (by decide +kernel) (fun c_2801 => absurd c_2801 (by decide +kernel)) (fun c_2801 => ?_)
                      refine lv_aload_n hx hb dX12_either_112 rfl (lv_at hl 4 rfl) ?_
                      obtain ⟨w_2802, hR_w_2802, hL_w_2802, hK_w_2802, hN_w_2802, hT_w_2802⟩ := sh_a hSH 387 (ci := 12) (kd := 13) (len := 300) rfl (by decide +kernel) hL_this hK_this
                      have hO_w_2802 : w_2802 = vrow σ 387 this := vo_k (c := 12) hO_this hR_w_2802
                      refine pk_v (va_runV (As := []) (rest := []) ⟨hx, hb, hml, hown, hts⟩ (s_X12_nextToken_x l D t σ I_2631 J_2632 ri_2633 rj rq H.size tg hSH hG.1 this hL_this hK_this w_2802 hR_w_2802 hL_w_2802 hK_w_2802 hN_w_2802 hT_w_2802) (cwV 0 hts (tw_V tw_832 tw_833 tw_834 tw_5 tw_835) rfl rfl rfl cv_yX12_nextToken_0 ⟨Nat.le_of_ble_eq_true rfl, Nat.le_of_ble_eq_true rfl⟩) ⟨pq_blind, pq_recv hK hP hL_this hK_this (by decide +kernel) rfl, pq_pre hK hN hP hD⟩ rfl rfl hl.1 rfl (lv_room (Nat.le_of_ble_eq_true rfl)) dX12_either_113 ⟨Nat.le_of_ble_eq_true rfl, Nat.le_of_ble_eq_true rfl⟩) hD hS hA (fun σ1 μ1 H locs hw_2804 hP hD hS => ?_)
                      obtain ⟨I_2805, J_2806, hu_2807, hg_2808, hp_2810, hp_2811, hp_2812, hfn_2813, hfr_2814⟩ := hw_2804
                      obtain ⟨hu_2807a, hu_2807b⟩ := Prod.mk.inj hu_2807
                      rw [hu_2807a, hu_2807b] at hP hD
                      replace hF := hF.trans (bv_n hfn_2813)
                      replace hFr := fr_tr hFr hfr_2814
                      have tt_2815 := hp_2810
                      have tt_2816 := hp_2811
                      have tt_2817 := hp_2812
                      have tt_2818 : (I_2805 391 this).toInt ≤ 300 := by have z := hg_2808.1.1 391 this; exact z.2
                      have hG := GM.tr hG hg_2808 (by decide +kernel)
                      have tt_2819 : (I_2805 396 this).toInt = (I_2631 396 this).toInt := by rw [hg_2808.2.1 396 (by decide +kernel) (by decide +kernel)]
                      have tt_2820 : (I_2805 398 this).toInt = (I_2631 398 this).toInt := by rw [hg_2808.2.1 398 (by decide +kernel) (by decide +kernel)]
                      have tt_2821 : (I_2805 401 this).toInt = (I_2631 401 this).toInt := by rw [hg_2808.2.1 401 (by decide +kernel) (by decide +kernel)]
                      have tt_2822 : (I_2805 402 this).toInt = (I_2631 402 this).toInt := by rw [hg_2808.2.1 402 (by decide +kernel) (by decide +kernel)]
                      have tt_2823 : (I_2805 397 this).toInt = (I_2631 397 this).toInt := by rw [hg_2808.2.1 397 (by decide +kernel) (by decide +kernel)]
                      refine lv_goto (tgt := 6) hx hb dX12_either_116 (by decide +kernel) ?_
                      exact ih_2609 x_2663 x_1950 (1 : Int32) I_2805 J_2806 ri_2633 _ _ _ (rg_w h_2793 (by decide +kernel)) (rg_w h_2616 (by decide +kernel)) (rg_w (rg_k (1 : Int32) 1 rfl) (by decide +kernel)) (by have zc0 : (0 : Int32).toInt = 0 := rfl; have zc1 : (1 : Int32).toInt = 1 := rfl; exact ⟨fun _ => by rw [show tb + (x_2663).toInt + (x_1950).toInt = (tb + (x_1950).toInt + 1) from by omega, show K + (x_2663).toInt + (x_1950).toInt = (K + (x_1950).toInt) + 1 from by omega]; exact PBz_tok hpbC (by omega) (by omega) (by omega) (by omega) (by omega) (by omega) (by omega) rfl, fun q => absurd q (by decide +kernel)⟩) (Int.le_of_lt (Int.lt_of_lt_of_le (tm_lt (by omega) (by omega) (by omega)) htmA)) (by have zc0 : (0 : Int32).toInt = 0 := rfl; have zc1 : (1 : Int32).toInt = 1 := rfl; exact tm_ms2' hm_2606 ⟨Int.le_of_lt (Int.lt_of_lt_of_le (tm_lt (s := (I_2631 391 this).toInt) (k := (I_2631 393 this).toInt) (by omega) (by omega) (by omega)) (tm_lec (hp_2637.resolve_left (fun q => q (by omega))).2 (by omega) (by omega))), Or.inl (Int.lt_of_lt_of_le (tm_lt (s := (I_2631 391 this).toInt) (k := (I_2631 393 this).toInt) (by omega) (by omega) (by omega)) (tm_lec (hp_2637.resolve_left (fun q => q (by omega))).2 (by omega) (by omega)))⟩ (tm_b ((hG.1.1 391 this).2)) (by omega) (by omega)) hF hFr hG hP hD hS (lv_sub hl [4, 2, 5, 0] rfl)
                    · have f_2824 := (hr_2667.resolve_left (fun q => absurd (q.1.symm.trans c_2794) (by decide +kernel))).2
                      have tc_2825 : (x_2663).toInt = 0 := congrArg Int32.toInt c_2794
                      exact (rg_empty (rg_and h_2793 (rg_of_eq c_2794 (rg_k (0 : Int32) 0 rfl)) (lo := 1) (hi := 0) (by decide +kernel)) (by decide +kernel)).elim
                  · replace hF := hF.trans (if_pos c_2784)
                    have f_2826 := (hr_2667.resolve_left (fun q => absurd (q.1.symm.trans c_2784) (by decide +kernel))).2
                    have tc_2827 : (x_2663).toInt = 0 := congrArg Int32.toInt c_2784
                    have h_2828 : rg x_2663 0 0 := rg_and h_2670 (rg_of_eq c_2784 (rg_k (0 : Int32) 0 rfl)) (by decide +kernel)
                    have uh_2828 := h_2828.1
                    have vh_2828 := h_2828.2
                    refine lv_iload_n hx hb dX12_either_79 rfl (lv_at hl 4 rfl) ?_
                    refine lv_if_eq (tgt := 90) hx hb dX12_either_80 (by decide +kernel) (fun c_2829 => ?_) (fun c_2829 => ?_)
                    · replace hF := hF.trans (if_pos c_2829)
                      have tc_2834 : (x_1950).toInt = 0 := congrArg Int32.toInt c_2829
                      have h_2835 : rg x_1950 0 0 := rg_and h_2616 (rg_of_eq c_2829 (rg_k (0 : Int32) 0 rfl)) (by decide +kernel)
                      have uh_2835 := h_2835.1
                      have vh_2835 := h_2835.2
                      have hpbD : PBz (I_2631 396 this).toInt (I_2631 398 this).toInt (I_2631 402 this).toInt (I_2631 391 this).toInt (I_2631 393 this).toInt (ri_2633 this_a) bb f0 fr va (tb + 1) nn K := by have q := hpbC; rw [show (tb + (x_1950).toInt + 1) = tb + 1 from by omega, show (K + (x_1950).toInt) = K from by omega] at q; exact q
                      refine lv_iload hx hb dX12_either_90 (lv_at hl 0 rfl) ?_
                      refine lv_istore_n (lv' := [(2, .int 0), (5, .int 0), (1, .int x_2663), (4, .int x_2629), (0, .ref this), (3, .int x_1951)]) hx hb dX12_either_92 rfl hl (by decide +kernel) rfl (fun ls hl => ?_)
                      refine lv_iload_n hx hb dX12_either_93 rfl (lv_at hl 2 rfl) ?_
                      refine lv_if_ne (tgt := 102) hx hb dX12_either_94 (by decide +kernel) (fun c_2836 => ?_) (fun c_2836 => ?_)
                      · have f_2841 := (hr_2667.resolve_right (fun q => c_2836 q.1)).2
                        have tc_2842 : (x_2663).toInt ≠ 0 := fun q => c_2836 (Int32.toInt_inj.mp q)
                        exact (rg_empty (rg_ne c_2836 h_2828 0 rfl (lo := 1) (hi := (-1)) (by decide +kernel)) (by decide +kernel)).elim
                      · have f_2843 := (hr_2667.resolve_left (fun q => absurd (q.1.symm.trans c_2836) (by decide +kernel))).2
                        have tc_2844 : (x_2663).toInt = 0 := congrArg Int32.toInt c_2836
                        refine lv_iload hx hb dX12_either_97 (lv_at hl 1 rfl) ?_
                        refine lv_if_eq (tgt := 106) hx hb dX12_either_99 (by decide +kernel) (fun c_2845 => ?_) (fun c_2845 => absurd c_2845 (by decide +kernel))
                        refine lv_iconst (v := 0) hx hb dX12_either_106 (by decide +kernel) ?_
                        refine lv_istore_n (lv' := [(3, .int 0), (2, .int 0), (5, .int 0), (1, .int x_2663), (4, .int x_2629), (0, .ref this)]) hx hb dX12_either_107 rfl hl (by decide +kernel) rfl (fun ls hl => ?_)
                        refine lv_iload_n hx hb dX12_either_108 rfl (lv_at hl 0 rfl) ?_
                        refine lv_if_eq (tgt := 116) hx hb dX12_either_109 (by decide +kernel) (fun c_2846 => ?_) (fun c_2846 => absurd c_2846 (by decide +kernel))
                        refine lv_goto (tgt := 6) hx hb dX12_either_116 (by decide +kernel) ?_
                        exact ih_2609 x_2663 (0 : Int32) (0 : Int32) I_2631 J_2632 ri_2633 _ _ _ (rg_w h_2828 (by decide +kernel)) (rg_w (rg_k (0 : Int32) 0 rfl) (by decide +kernel)) (rg_w (rg_k (0 : Int32) 0 rfl) (by decide +kernel)) (by have zc0 : (0 : Int32).toInt = 0 := rfl; have zc1 : (1 : Int32).toInt = 1 := rfl; exact ⟨fun q => absurd q (by decide +kernel), fun _ => PBz_cg hpbD (by omega) (by omega) (by omega) (by omega) (by omega) rfl⟩) htmA (by have zc0 : (0 : Int32).toInt = 0 := rfl; have zc1 : (1 : Int32).toInt = 1 := rfl; exact tm_ms2' hm_2606 ⟨tm_lec (hp_2637.resolve_left (fun q => q (by omega))).2 (by omega) (by omega), Or.inr (by omega)⟩ (tm_b ((hG.1.1 391 this).2)) (by omega) (by omega)) hF hFr hG hP hD hS (lv_sub hl [5, 3, 1, 0] rfl)
                    · replace hF := hF.trans (if_neg c_2829)
                      have tc_2847 : (x_1950).toInt ≠ 0 := fun q => c_2829 (Int32.toInt_inj.mp q)
                      have h_2848 : rg x_1950 1 1 := rg_ne c_2829 h_2616 0 rfl (by decide +kernel)
                      have uh_2848 := h_2848.1
                      have vh_2848 := h_2848.2
                      refine lv_aload_n hx hb dX12_either_83 rfl (lv_at hl 3 rfl) ?_
                      refine lv_bipush (v := 22) hx hb dX12_either_84 (by decide +kernel) ?_
                      refine lv_iconst (v := 0) hx hb dX12_either_86 (by decide +kernel) ?_
                      have hq1 := PBz_t hpbC
                      have hq2 := PBz_w hpbC (Or.inr (by omega))
                      refine pk_v (va_runV (As := [.int 22, .int 0]) (rest := []) ⟨hx, hb, hml, hown, hts⟩ (s_X12_emit l D t σ I_2631 J_2632 ri_2633 rj rq H.size tg hSH hG.1 this (22 : Int32) (0 : Int32) hL_this hK_this this_a hR_this_a hL_this_a hK_this_a hN_this_a hT_this_a (by omega) (by omega)) (cwV 2 hts (tw_V tw_905 tw_906 tw_907 tw_5 tw_908) rfl rfl rfl cv_yX12_emit_2 ⟨Nat.le_of_ble_eq_true rfl, Nat.le_of_ble_eq_true rfl⟩) ⟨pq_blind, pq_recv hK hP hL_this hK_this (by decide +kernel) rfl, pq_pre hK hN hP hD⟩ rfl rfl hl.1 rfl (lv_room (Nat.le_of_ble_eq_true rfl)) dX12_either_87 ⟨Nat.le_of_ble_eq_true rfl, Nat.le_of_ble_eq_true rfl⟩) hD hS hA (fun σ1 μ1 H locs hw_2850 hP hD hS => ?_)
                      obtain ⟨I_2851, ri_2852, hu_2853, hg_2854, hp_2856, hp_2857, hp_2858, hp_2859, hfn_2860, hfr_2861⟩ := hw_2850
                      obtain ⟨hu_2853a, hu_2853b⟩ := Prod.mk.inj hu_2853
                      rw [hu_2853a, hu_2853b] at hP hD
                      replace hF := hF.trans (bv_n hfn_2860)
                      replace hFr := fr_tr hFr hfr_2861
                      obtain ⟨v_2862, ev_2862, hv_2862⟩ := hp_2856
                      have tt_2863 : (I_2851 398 this).toInt = (I_2631 398 this).toInt + 1 := by rw [ev_2862, pq_us]; exact hv_2862
                      have tt_2864 : (I_2851 403 this).toInt = (I_2631 403 this).toInt := by rw [ev_2862, pq_uf _ _ _ (by decide +kernel)]
                      have hG := GM.tr hG hg_2854 (by decide +kernel)
                      have tt_2865 : (I_2851 396 this).toInt = (I_2631 396 this).toInt := by rw [hg_2854.2.1 396 (by decide +kernel) (by decide +kernel)]
                      have tt_2866 : (I_2851 401 this).toInt = (I_2631 401 this).toInt := by rw [hg_2854.2.1 401 (by decide +kernel) (by decide +kernel)]
                      have tt_2867 : (I_2851 402 this).toInt = (I_2631 402 this).toInt := by rw [hg_2854.2.1 402 (by decide +kernel) (by decide +kernel)]
                      have tt_2868 : (I_2851 391 this).toInt = (I_2631 391 this).toInt := by rw [hg_2854.2.1 391 (by decide +kernel) (by decide +kernel)]
                      have tt_2869 : (I_2851 393 this).toInt = (I_2631 393 this).toInt := by rw [hg_2854.2.1 393 (by decide +kernel) (by decide +kernel)]
                      have tt_2870 : (I_2851 397 this).toInt = (I_2631 397 this).toInt := by rw [hg_2854.2.1 397 (by decide +kernel) (by decide +kernel)]
                      have hpbD : PBz (I_2851 396 this).toInt (I_2851 398 this).toInt (I_2851 402 this).toInt (I_2851 391 this).toInt (I_2851 393 this).toInt (ri_2852 this_a) bb f0 fr va (tb + 1) nn K := by have zc0 : (0 : Int32).toInt = 0 := rfl; have zc1 : (1 : Int32).toInt = 1 := rfl; have zo : (22 : Int32).toInt = 22 := rfl; exact PBz_em (x := 22) (by rw [show K + 1 = (K + (x_1950).toInt) from by omega]; exact hpbC) (by omega) (fun j hj => hp_2857 j (by omega)) (by rw [show (I_2631 396 this).toInt + 250 + 2 * (I_2631 398 this).toInt = (I_2631 396 this).toInt + 250 + 2 * (I_2631 398 this).toInt from by omega]; exact hp_2858) (by omega) (by omega) (by omega) (by omega) (by omega) (by omega)
                      refine lv_iload hx hb dX12_either_90 (lv_at hl 0 rfl) ?_
                      refine lv_istore_n (lv' := [(2, .int 0), (5, .int 0), (1, .int x_2663), (4, .int x_2629), (0, .ref this), (3, .int x_1951)]) hx hb dX12_either_92 rfl hl (by decide +kernel) rfl (fun ls hl => ?_)
                      refine lv_iload_n hx hb dX12_either_93 rfl (lv_at hl 2 rfl) ?_
                      refine lv_if_ne (tgt := 102) hx hb dX12_either_94 (by decide +kernel) (fun c_2871 => ?_) (fun c_2871 => ?_)
                      · have f_2876 := (hr_2667.resolve_right (fun q => c_2871 q.1)).2
                        have tc_2877 : (x_2663).toInt ≠ 0 := fun q => c_2871 (Int32.toInt_inj.mp q)
                        exact (rg_empty (rg_ne c_2871 h_2828 0 rfl (lo := 1) (hi := (-1)) (by decide +kernel)) (by decide +kernel)).elim
                      · have f_2878 := (hr_2667.resolve_left (fun q => absurd (q.1.symm.trans c_2871) (by decide +kernel))).2
                        have tc_2879 : (x_2663).toInt = 0 := congrArg Int32.toInt c_2871
                        refine lv_iload hx hb dX12_either_97 (lv_at hl 1 rfl) ?_
                        refine lv_if_eq (tgt := 106) hx hb dX12_either_99 (by decide +kernel) (fun c_2880 => ?_) (fun c_2880 => absurd c_2880 (by decide +kernel))
                        refine lv_iconst (v := 0) hx hb dX12_either_106 (by decide +kernel) ?_
                        refine lv_istore_n (lv' := [(3, .int 0), (2, .int 0), (5, .int 0), (1, .int x_2663), (4, .int x_2629), (0, .ref this)]) hx hb dX12_either_107 rfl hl (by decide +kernel) rfl (fun ls hl => ?_)
                        refine lv_iload_n hx hb dX12_either_108 rfl (lv_at hl 0 rfl) ?_
                        refine lv_if_eq (tgt := 116) hx hb dX12_either_109 (by decide +kernel) (fun c_2881 => ?_) (fun c_2881 => absurd c_2881 (by decide +kernel))
                        refine lv_goto (tgt := 6) hx hb dX12_either_116 (by decide +kernel) ?_
                        exact ih_2609 x_2663 (0 : Int32) (0 : Int32) I_2851 J_2632 ri_2852 _ _ _ (rg_w h_2828 (by decide +kernel)) (rg_w (rg_k (0 : Int32) 0 rfl) (by decide +kernel)) (rg_w (rg_k (0 : Int32) 0 rfl) (by decide +kernel)) (by have zc0 : (0 : Int32).toInt = 0 := rfl; have zc1 : (1 : Int32).toInt = 1 := rfl; exact ⟨fun q => absurd q (by decide +kernel), fun _ => PBz_cg hpbD (by omega) (by omega) (by omega) (by omega) (by omega) rfl⟩) (tm_lec htmA (by omega) (by omega)) (by have zc0 : (0 : Int32).toInt = 0 := rfl; have zc1 : (1 : Int32).toInt = 1 := rfl; exact tm_ms2' hm_2606 ⟨tm_lec (hp_2637.resolve_left (fun q => q (by omega))).2 (by omega) (by omega), Or.inr (by omega)⟩ (tm_b ((hG.1.1 391 this).2)) (by omega) (by omega)) hF hFr hG hP hD hS (lv_sub hl [5, 3, 1, 0] rfl)
                · replace hF := hF.trans (if_pos c_2779)
                  have tc_2882 : (x_2778).toInt = 0 := congrArg Int32.toInt c_2779
                  have h_2883 : rg x_2778 0 0 := rg_and (rg_full _) (rg_of_eq c_2779 (rg_k (0 : Int32) 0 rfl)) (by decide +kernel)
                  have uh_2883 := h_2883.1
                  have vh_2883 := h_2883.2
                  refine lv_iconst (v := 1) hx hb dX12_either_68 (by decide +kernel) ?_
                  refine lv_goto (tgt := 73) hx hb dX12_either_69 (by decide +kernel) ?_
                  refine lv_istore (lv' := [(5, .int 1), (1, .int x_2663), (4, .int x_2629), (0, .ref this), (2, .int x_1950), (3, .int x_1951)]) hx hb dX12_either_73 hl (by decide +kernel) rfl (fun ls hl => ?_)
                  refine lv_iload_n hx hb dX12_either_75 rfl (lv_at hl 1 rfl) ?_
                  refine lv_if_ne (tgt := 93) hx hb dX12_either_76 (by decide +kernel) (fun c_2884 => ?_) (fun c_2884 => ?_)
                  · replace hF := hF.trans (if_neg c_2884)
                    have f_2891 := (hr_2667.resolve_right (fun q => c_2884 q.1)).2
                    have tc_2892 : (x_2663).toInt ≠ 0 := fun q => c_2884 (Int32.toInt_inj.mp q)
                    have h_2893 : rg x_2663 1 1 := rg_ne c_2884 h_2670 0 rfl (by decide +kernel)
                    have uh_2893 := h_2893.1
                    have vh_2893 := h_2893.2
                    refine lv_iload_n hx hb dX12_either_93 rfl (lv_at hl 1 rfl) ?_
                    refine lv_if_ne (tgt := 102) hx hb dX12_either_94 (by decide +kernel) (fun c_2894 => ?_) (fun c_2894 => ?_)
                    · have f_2899 := (hr_2667.resolve_right (fun q => c_2894 q.1)).2
                      have tc_2900 : (x_2663).toInt ≠ 0 := fun q => c_2894 (Int32.toInt_inj.mp q)
                      refine lv_iconst (v := 1) hx hb dX12_either_102 (by decide +kernel) ?_
                      refine lv_goto (tgt := 107) hx hb dX12_either_103 (by decide +kernel) ?_
                      refine lv_istore_n (lv' := [(3, .int 1), (5, .int 1), (1, .int x_2663), (4, .int x_2629), (0, .ref this), (2, .int x_1950)]) hx hb dX12_either_107 rfl hl (by decide +kernel) rfl (fun ls hl => ?_)
                      refine lv_iload_n hx hb dX12_either_108 rfl (lv_at hl 0 rfl) ?_
                      refine lv_if_eq (tgt := 116) hx hb dX12_either_109 (by decide +kernel) (fun c_2901 => absurd c_2901 (by decide +kernel)) (fun c_2901 => ?_)
                      refine lv_aload_n hx hb dX12_either_112 rfl (lv_at hl 4 rfl) ?_
                      obtain ⟨w_2902, hR_w_2902, hL_w_2902, hK_w_2902, hN_w_2902, hT_w_2902⟩ := sh_a hSH 387 (ci := 12) (kd := 13) (len := 300) rfl (by decide +kernel) hL_this hK_this
                      have hO_w_2902 : w_2902 = vrow σ 387 this := vo_k (c := 12) hO_this hR_w_2902
                      refine pk_v (va_runV (As := []) (rest := []) ⟨hx, hb, hml, hown, hts⟩ (s_X12_nextToken_x l D t σ I_2631 J_2632 ri_2633 rj rq H.size tg hSH hG.1 this hL_this hK_this w_2902 hR_w_2902 hL_w_2902 hK_w_2902 hN_w_2902 hT_w_2902) (cwV 0 hts (tw_V tw_832 tw_833 tw_834 tw_5 tw_835) rfl rfl rfl cv_yX12_nextToken_0 ⟨Nat.le_of_ble_eq_true rfl, Nat.le_of_ble_eq_true rfl⟩) ⟨pq_blind, pq_recv hK hP hL_this hK_this (by decide +kernel) rfl, pq_pre hK hN hP hD⟩ rfl rfl hl.1 rfl (lv_room (Nat.le_of_ble_eq_true rfl)) dX12_either_113 ⟨Nat.le_of_ble_eq_true rfl, Nat.le_of_ble_eq_true rfl⟩) hD hS hA (fun σ1 μ1 H locs hw_2904 hP hD hS => ?_)
                      obtain ⟨I_2905, J_2906, hu_2907, hg_2908, hp_2910, hp_2911, hp_2912, hfn_2913, hfr_2914⟩ := hw_2904
                      obtain ⟨hu_2907a, hu_2907b⟩ := Prod.mk.inj hu_2907
                      rw [hu_2907a, hu_2907b] at hP hD
                      replace hF := hF.trans (bv_n hfn_2913)
                      replace hFr := fr_tr hFr hfr_2914
                      have tt_2915 := hp_2910
                      have tt_2916 := hp_2911
                      have tt_2917 := hp_2912
                      have tt_2918 : (I_2905 391 this).toInt ≤ 300 := by have z := hg_2908.1.1 391 this; exact z.2
                      have hG := GM.tr hG hg_2908 (by decide +kernel)
                      have tt_2919 : (I_2905 396 this).toInt = (I_2631 396 this).toInt := by rw [hg_2908.2.1 396 (by decide +kernel) (by decide +kernel)]
                      have tt_2920 : (I_2905 398 this).toInt = (I_2631 398 this).toInt := by rw [hg_2908.2.1 398 (by decide +kernel) (by decide +kernel)]
                      have tt_2921 : (I_2905 401 this).toInt = (I_2631 401 this).toInt := by rw [hg_2908.2.1 401 (by decide +kernel) (by decide +kernel)]
                      have tt_2922 : (I_2905 402 this).toInt = (I_2631 402 this).toInt := by rw [hg_2908.2.1 402 (by decide +kernel) (by decide +kernel)]
                      have tt_2923 : (I_2905 397 this).toInt = (I_2631 397 this).toInt := by rw [hg_2908.2.1 397 (by decide +kernel) (by decide +kernel)]
                      refine lv_goto (tgt := 6) hx hb dX12_either_116 (by decide +kernel) ?_
                      exact ih_2609 x_2663 x_1950 (1 : Int32) I_2905 J_2906 ri_2633 _ _ _ (rg_w h_2893 (by decide +kernel)) (rg_w h_2616 (by decide +kernel)) (rg_w (rg_k (1 : Int32) 1 rfl) (by decide +kernel)) (by have zc0 : (0 : Int32).toInt = 0 := rfl; have zc1 : (1 : Int32).toInt = 1 := rfl; exact ⟨fun _ => by rw [show tb + (x_2663).toInt + (x_1950).toInt = (tb + (x_1950).toInt + 1) from by omega, show K + (x_2663).toInt + (x_1950).toInt = (K + (x_1950).toInt) + 1 from by omega]; exact PBz_tok hpbC (by omega) (by omega) (by omega) (by omega) (by omega) (by omega) (by omega) rfl, fun q => absurd q (by decide +kernel)⟩) (Int.le_of_lt (Int.lt_of_lt_of_le (tm_lt (by omega) (by omega) (by omega)) htmA)) (by have zc0 : (0 : Int32).toInt = 0 := rfl; have zc1 : (1 : Int32).toInt = 1 := rfl; exact tm_ms2' hm_2606 ⟨Int.le_of_lt (Int.lt_of_lt_of_le (tm_lt (s := (I_2631 391 this).toInt) (k := (I_2631 393 this).toInt) (by omega) (by omega) (by omega)) (tm_lec (hp_2637.resolve_left (fun q => q (by omega))).2 (by omega) (by omega))), Or.inl (Int.lt_of_lt_of_le (tm_lt (s := (I_2631 391 this).toInt) (k := (I_2631 393 this).toInt) (by omega) (by omega) (by omega)) (tm_lec (hp_2637.resolve_left (fun q => q (by omega))).2 (by omega) (by omega)))⟩ (tm_b ((hG.1.1 391 this).2)) (by omega) (by omega)) hF hFr hG hP hD hS (lv_sub hl [4, 2, 5, 0] rfl)
                    · have f_2924 := (hr_2667.resolve_left (fun q => absurd (q.1.symm.trans c_2894) (by decide +kernel))).2
                      have tc_2925 : (x_2663).toInt = 0 := congrArg Int32.toInt c_2894
                      exact (rg_empty (rg_and h_2893 (rg_of_eq c_2894 (rg_k (0 : Int32) 0 rfl)) (lo := 1) (hi := 0) (by decide +kernel)) (by decide +kernel)).elim
                  · replace hF := hF.trans (if_pos c_2884)
                    have f_2926 := (hr_2667.resolve_left (fun q => absurd (q.1.symm.trans c_2884) (by decide +kernel))).2
                    have tc_2927 : (x_2663).toInt = 0 := congrArg Int32.toInt c_2884
                    have h_2928 : rg x_2663 0 0 := rg_and h_2670 (rg_of_eq c_2884 (rg_k (0 : Int32) 0 rfl)) (by decide +kernel)
                    have uh_2928 := h_2928.1
                    have vh_2928 := h_2928.2
                    refine lv_iload_n hx hb dX12_either_79 rfl (lv_at hl 4 rfl) ?_
                    refine lv_if_eq (tgt := 90) hx hb dX12_either_80 (by decide +kernel) (fun c_2929 => ?_) (fun c_2929 => ?_)
                    · replace hF := hF.trans (if_pos c_2929)
                      have tc_2934 : (x_1950).toInt = 0 := congrArg Int32.toInt c_2929
                      have h_2935 : rg x_1950 0 0 := rg_and h_2616 (rg_of_eq c_2929 (rg_k (0 : Int32) 0 rfl)) (by decide +kernel)
                      have uh_2935 := h_2935.1
                      have vh_2935 := h_2935.2
                      have hpbD : PBz (I_2631 396 this).toInt (I_2631 398 this).toInt (I_2631 402 this).toInt (I_2631 391 this).toInt (I_2631 393 this).toInt (ri_2633 this_a) bb f0 fr va (tb + 1) nn K := by have q := hpbC; rw [show (tb + (x_1950).toInt + 1) = tb + 1 from by omega, show (K + (x_1950).toInt) = K from by omega] at q; exact q
                      refine lv_iload hx hb dX12_either_90 (lv_at hl 0 rfl) ?_
                      refine lv_istore_n (lv' := [(2, .int 1), (5, .int 1), (1, .int x_2663), (4, .int x_2629), (0, .ref this), (3, .int x_1951)]) hx hb dX12_either_92 rfl hl (by decide +kernel) rfl (fun ls hl => ?_)
                      refine lv_iload_n hx hb dX12_either_93 rfl (lv_at hl 2 rfl) ?_
                      refine lv_if_ne (tgt := 102) hx hb dX12_either_94 (by decide +kernel) (fun c_2936 => ?_) (fun c_2936 => ?_)
                      · have f_2941 := (hr_2667.resolve_right (fun q => c_2936 q.1)).2
                        have tc_2942 : (x_2663).toInt ≠ 0 := fun q => c_2936 (Int32.toInt_inj.mp q)
                        exact (rg_empty (rg_ne c_2936 h_2928 0 rfl (lo := 1) (hi := (-1)) (by decide +kernel)) (by decide +kernel)).elim
                      · have f_2943 := (hr_2667.resolve_left (fun q => absurd (q.1.symm.trans c_2936) (by decide +kernel))).2
                        have tc_2944 : (x_2663).toInt = 0 := congrArg Int32.toInt c_2936
                        refine lv_iload hx hb dX12_either_97 (lv_at hl 1 rfl) ?_
                        refine lv_if_eq (tgt := 106) hx hb dX12_either_99 (by decide +kernel) (fun c_2945 => absurd c_2945 (by decide +kernel)) (fun c_2945 => ?_)
                        refine lv_iconst (v := 1) hx hb dX12_either_102 (by decide +kernel) ?_
                        refine lv_goto (tgt := 107) hx hb dX12_either_103 (by decide +kernel) ?_
                        refine lv_istore_n (lv' := [(3, .int 1), (2, .int 1), (5, .int 1), (1, .int x_2663), (4, .int x_2629), (0, .ref this)]) hx hb dX12_either_107 rfl hl (by decide +kernel) rfl (fun ls hl => ?_)
                        refine lv_iload_n hx hb dX12_either_108 rfl (lv_at hl 0 rfl) ?_
                        refine lv_if_eq (tgt := 116) hx hb dX12_either_109 (by decide +kernel) (fun c_2946 => absurd c_2946 (by decide +kernel)) (fun c_2946 => ?_)
                        refine lv_aload_n hx hb dX12_either_112 rfl (lv_at hl 5 rfl) ?_
                        obtain ⟨w_2947, hR_w_2947, hL_w_2947, hK_w_2947, hN_w_2947, hT_w_2947⟩ := sh_a hSH 387 (ci := 12) (kd := 13) (len := 300) rfl (by decide +kernel) hL_this hK_this
                        have hO_w_2947 : w_2947 = vrow σ 387 this := vo_k (c := 12) hO_this hR_w_2947
                        refine pk_v (va_runV (As := []) (rest := []) ⟨hx, hb, hml, hown, hts⟩ (s_X12_nextToken_x l D t σ I_2631 J_2632 ri_2633 rj rq H.size tg hSH hG.1 this hL_this hK_this w_2947 hR_w_2947 hL_w_2947 hK_w_2947 hN_w_2947 hT_w_2947) (cwV 0 hts (tw_V tw_832 tw_833 tw_834 tw_5 tw_835) rfl rfl rfl cv_yX12_nextToken_0 ⟨Nat.le_of_ble_eq_true rfl, Nat.le_of_ble_eq_true rfl⟩) ⟨pq_blind, pq_recv hK hP hL_this hK_this (by decide +kernel) rfl, pq_pre hK hN hP hD⟩ rfl rfl hl.1 rfl (lv_room (Nat.le_of_ble_eq_true rfl)) dX12_either_113 ⟨Nat.le_of_ble_eq_true rfl, Nat.le_of_ble_eq_true rfl⟩) hD hS hA (fun σ1 μ1 H locs hw_2949 hP hD hS => ?_)
                        obtain ⟨I_2950, J_2951, hu_2952, hg_2953, hp_2955, hp_2956, hp_2957, hfn_2958, hfr_2959⟩ := hw_2949
                        obtain ⟨hu_2952a, hu_2952b⟩ := Prod.mk.inj hu_2952
                        rw [hu_2952a, hu_2952b] at hP hD
                        replace hF := hF.trans (bv_n hfn_2958)
                        replace hFr := fr_tr hFr hfr_2959
                        have tt_2960 := hp_2955
                        have tt_2961 := hp_2956
                        have tt_2962 := hp_2957
                        have tt_2963 : (I_2950 391 this).toInt ≤ 300 := by have z := hg_2953.1.1 391 this; exact z.2
                        have hG := GM.tr hG hg_2953 (by decide +kernel)
                        have tt_2964 : (I_2950 396 this).toInt = (I_2631 396 this).toInt := by rw [hg_2953.2.1 396 (by decide +kernel) (by decide +kernel)]
                        have tt_2965 : (I_2950 398 this).toInt = (I_2631 398 this).toInt := by rw [hg_2953.2.1 398 (by decide +kernel) (by decide +kernel)]
                        have tt_2966 : (I_2950 401 this).toInt = (I_2631 401 this).toInt := by rw [hg_2953.2.1 401 (by decide +kernel) (by decide +kernel)]
                        have tt_2967 : (I_2950 402 this).toInt = (I_2631 402 this).toInt := by rw [hg_2953.2.1 402 (by decide +kernel) (by decide +kernel)]
                        have tt_2968 : (I_2950 397 this).toInt = (I_2631 397 this).toInt := by rw [hg_2953.2.1 397 (by decide +kernel) (by decide +kernel)]
                        refine lv_goto (tgt := 6) hx hb dX12_either_116 (by decide +kernel) ?_
                        exact ih_2609 x_2663 (1 : Int32) (1 : Int32) I_2950 J_2951 ri_2633 _ _ _ (rg_w h_2928 (by decide +kernel)) (rg_w (rg_k (1 : Int32) 1 rfl) (by decide +kernel)) (rg_w (rg_k (1 : Int32) 1 rfl) (by decide +kernel)) (by have zc0 : (0 : Int32).toInt = 0 := rfl; have zc1 : (1 : Int32).toInt = 1 := rfl; exact ⟨fun _ => by rw [show tb + (x_2663).toInt + (1 : Int32).toInt = (tb + 1) from by omega, show K + (x_2663).toInt + (1 : Int32).toInt = K + 1 from by omega]; exact PBz_tok hpbD (by omega) (by omega) (by omega) (by omega) (by omega) (by omega) (by omega) rfl, fun q => absurd q (by decide +kernel)⟩) (Int.le_of_lt (Int.lt_of_lt_of_le (tm_lt (by omega) (by omega) (by omega)) htmA)) (by have zc0 : (0 : Int32).toInt = 0 := rfl; have zc1 : (1 : Int32).toInt = 1 := rfl; exact tm_ms2' hm_2606 ⟨Int.le_of_lt (Int.lt_of_lt_of_le (tm_lt (s := (I_2631 391 this).toInt) (k := (I_2631 393 this).toInt) (by omega) (by omega) (by omega)) (tm_lec (hp_2637.resolve_left (fun q => q (by omega))).2 (by omega) (by omega))), Or.inl (Int.lt_of_lt_of_le (tm_lt (s := (I_2631 391 this).toInt) (k := (I_2631 393 this).toInt) (by omega) (by omega) (by omega)) (tm_lec (hp_2637.resolve_left (fun q => q (by omega))).2 (by omega) (by omega)))⟩ (tm_b ((hG.1.1 391 this).2)) (by omega) (by omega)) hF hFr hG hP hD hS (lv_sub hl [5, 3, 1, 0] rfl)
                    · replace hF := hF.trans (if_neg c_2929)
                      have tc_2969 : (x_1950).toInt ≠ 0 := fun q => c_2929 (Int32.toInt_inj.mp q)
                      have h_2970 : rg x_1950 1 1 := rg_ne c_2929 h_2616 0 rfl (by decide +kernel)
                      have uh_2970 := h_2970.1
                      have vh_2970 := h_2970.2
                      refine lv_aload_n hx hb dX12_either_83 rfl (lv_at hl 3 rfl) ?_
                      refine lv_bipush (v := 22) hx hb dX12_either_84 (by decide +kernel) ?_
                      refine lv_iconst (v := 0) hx hb dX12_either_86 (by decide +kernel) ?_
                      have hq1 := PBz_t hpbC
                      have hq2 := PBz_w hpbC (Or.inr (by omega))
                      refine pk_v (va_runV (As := [.int 22, .int 0]) (rest := []) ⟨hx, hb, hml, hown, hts⟩ (s_X12_emit l D t σ I_2631 J_2632 ri_2633 rj rq H.size tg hSH hG.1 this (22 : Int32) (0 : Int32) hL_this hK_this this_a hR_this_a hL_this_a hK_this_a hN_this_a hT_this_a (by omega) (by omega)) (cwV 2 hts (tw_V tw_905 tw_906 tw_907 tw_5 tw_908) rfl rfl rfl cv_yX12_emit_2 ⟨Nat.le_of_ble_eq_true rfl, Nat.le_of_ble_eq_true rfl⟩) ⟨pq_blind, pq_recv hK hP hL_this hK_this (by decide +kernel) rfl, pq_pre hK hN hP hD⟩ rfl rfl hl.1 rfl (lv_room (Nat.le_of_ble_eq_true rfl)) dX12_either_87 ⟨Nat.le_of_ble_eq_true rfl, Nat.le_of_ble_eq_true rfl⟩) hD hS hA (fun σ1 μ1 H locs hw_2972 hP hD hS => ?_)
                      obtain ⟨I_2973, ri_2974, hu_2975, hg_2976, hp_2978, hp_2979, hp_2980, hp_2981, hfn_2982, hfr_2983⟩ := hw_2972
                      obtain ⟨hu_2975a, hu_2975b⟩ := Prod.mk.inj hu_2975
                      rw [hu_2975a, hu_2975b] at hP hD
                      replace hF := hF.trans (bv_n hfn_2982)
                      replace hFr := fr_tr hFr hfr_2983
                      obtain ⟨v_2984, ev_2984, hv_2984⟩ := hp_2978
                      have tt_2985 : (I_2973 398 this).toInt = (I_2631 398 this).toInt + 1 := by rw [ev_2984, pq_us]; exact hv_2984
                      have tt_2986 : (I_2973 403 this).toInt = (I_2631 403 this).toInt := by rw [ev_2984, pq_uf _ _ _ (by decide +kernel)]
                      have hG := GM.tr hG hg_2976 (by decide +kernel)
                      have tt_2987 : (I_2973 396 this).toInt = (I_2631 396 this).toInt := by rw [hg_2976.2.1 396 (by decide +kernel) (by decide +kernel)]
                      have tt_2988 : (I_2973 401 this).toInt = (I_2631 401 this).toInt := by rw [hg_2976.2.1 401 (by decide +kernel) (by decide +kernel)]
                      have tt_2989 : (I_2973 402 this).toInt = (I_2631 402 this).toInt := by rw [hg_2976.2.1 402 (by decide +kernel) (by decide +kernel)]
                      have tt_2990 : (I_2973 391 this).toInt = (I_2631 391 this).toInt := by rw [hg_2976.2.1 391 (by decide +kernel) (by decide +kernel)]
                      have tt_2991 : (I_2973 393 this).toInt = (I_2631 393 this).toInt := by rw [hg_2976.2.1 393 (by decide +kernel) (by decide +kernel)]
                      have tt_2992 : (I_2973 397 this).toInt = (I_2631 397 this).toInt := by rw [hg_2976.2.1 397 (by decide +kernel) (by decide +kernel)]
                      have hpbD : PBz (I_2973 396 this).toInt (I_2973 398 this).toInt (I_2973 402 this).toInt (I_2973 391 this).toInt (I_2973 393 this).toInt (ri_2974 this_a) bb f0 fr va (tb + 1) nn K := by have zc0 : (0 : Int32).toInt = 0 := rfl; have zc1 : (1 : Int32).toInt = 1 := rfl; have zo : (22 : Int32).toInt = 22 := rfl; exact PBz_em (x := 22) (by rw [show K + 1 = (K + (x_1950).toInt) from by omega]; exact hpbC) (by omega) (fun j hj => hp_2979 j (by omega)) (by rw [show (I_2631 396 this).toInt + 250 + 2 * (I_2631 398 this).toInt = (I_2631 396 this).toInt + 250 + 2 * (I_2631 398 this).toInt from by omega]; exact hp_2980) (by omega) (by omega) (by omega) (by omega) (by omega) (by omega)
                      refine lv_iload hx hb dX12_either_90 (lv_at hl 0 rfl) ?_
                      refine lv_istore_n (lv' := [(2, .int 1), (5, .int 1), (1, .int x_2663), (4, .int x_2629), (0, .ref this), (3, .int x_1951)]) hx hb dX12_either_92 rfl hl (by decide +kernel) rfl (fun ls hl => ?_)
                      refine lv_iload_n hx hb dX12_either_93 rfl (lv_at hl 2 rfl) ?_
                      refine lv_if_ne (tgt := 102) hx hb dX12_either_94 (by decide +kernel) (fun c_2993 => ?_) (fun c_2993 => ?_)
                      · have f_2998 := (hr_2667.resolve_right (fun q => c_2993 q.1)).2
                        have tc_2999 : (x_2663).toInt ≠ 0 := fun q => c_2993 (Int32.toInt_inj.mp q)
                        exact (rg_empty (rg_ne c_2993 h_2928 0 rfl (lo := 1) (hi := (-1)) (by decide +kernel)) (by decide +kernel)).elim
                      · have f_3000 := (hr_2667.resolve_left (fun q => absurd (q.1.symm.trans c_2993) (by decide +kernel))).2
                        have tc_3001 : (x_2663).toInt = 0 := congrArg Int32.toInt c_2993
                        refine lv_iload hx hb dX12_either_97 (lv_at hl 1 rfl) ?_
                        refine lv_if_eq (tgt := 106) hx hb dX12_either_99 (by decide +kernel) (fun c_3002 => absurd c_3002 (by decide +kernel)) (fun c_3002 => ?_)
                        refine lv_iconst (v := 1) hx hb dX12_either_102 (by decide +kernel) ?_
                        refine lv_goto (tgt := 107) hx hb dX12_either_103 (by decide +kernel) ?_
                        refine lv_istore_n (lv' := [(3, .int 1), (2, .int 1), (5, .int 1), (1, .int x_2663), (4, .int x_2629), (0, .ref this)]) hx hb dX12_either_107 rfl hl (by decide +kernel) rfl (fun ls hl => ?_)
                        refine lv_iload_n hx hb dX12_either_108 rfl (lv_at hl 0 rfl) ?_
                        refine lv_if_eq (tgt := 116) hx hb dX12_either_109 (by decide +kernel) (fun c_3003 => absurd c_3003 (by decide +kernel)) (fun c_3003 => ?_)
                        refine lv_aload_n hx hb dX12_either_112 rfl (lv_at hl 5 rfl) ?_
                        obtain ⟨w_3004, hR_w_3004, hL_w_3004, hK_w_3004, hN_w_3004, hT_w_3004⟩ := sh_a hSH 387 (ci := 12) (kd := 13) (len := 300) rfl (by decide +kernel) hL_this hK_this
                        have hO_w_3004 : w_3004 = vrow σ 387 this := vo_k (c := 12) hO_this hR_w_3004
                        refine pk_v (va_runV (As := []) (rest := []) ⟨hx, hb, hml, hown, hts⟩ (s_X12_nextToken_x l D t σ I_2973 J_2632 ri_2974 rj rq H.size tg hSH hG.1 this hL_this hK_this w_3004 hR_w_3004 hL_w_3004 hK_w_3004 hN_w_3004 hT_w_3004) (cwV 0 hts (tw_V tw_832 tw_833 tw_834 tw_5 tw_835) rfl rfl rfl cv_yX12_nextToken_0 ⟨Nat.le_of_ble_eq_true rfl, Nat.le_of_ble_eq_true rfl⟩) ⟨pq_blind, pq_recv hK hP hL_this hK_this (by decide +kernel) rfl, pq_pre hK hN hP hD⟩ rfl rfl hl.1 rfl (lv_room (Nat.le_of_ble_eq_true rfl)) dX12_either_113 ⟨Nat.le_of_ble_eq_true rfl, Nat.le_of_ble_eq_true rfl⟩) hD hS hA (fun σ1 μ1 H locs hw_3006 hP hD hS => ?_)
                        obtain ⟨I_3007, J_3008, hu_3009, hg_3010, hp_3012, hp_3013, hp_3014, hfn_3015, hfr_3016⟩ := hw_3006
                        obtain ⟨hu_3009a, hu_3009b⟩ := Prod.mk.inj hu_3009
                        rw [hu_3009a, hu_3009b] at hP hD
                        replace hF := hF.trans (bv_n hfn_3015)
                        replace hFr := fr_tr hFr hfr_3016
                        have tt_3017 := hp_3012
                        have tt_3018 := hp_3013
                        have tt_3019 := hp_3014
                        have tt_3020 : (I_3007 391 this).toInt ≤ 300 := by have z := hg_3010.1.1 391 this; exact z.2
                        have hG := GM.tr hG hg_3010 (by decide +kernel)
                        have tt_3021 : (I_3007 396 this).toInt = (I_2973 396 this).toInt := by rw [hg_3010.2.1 396 (by decide +kernel) (by decide +kernel)]
                        have tt_3022 : (I_3007 398 this).toInt = (I_2973 398 this).toInt := by rw [hg_3010.2.1 398 (by decide +kernel) (by decide +kernel)]
                        have tt_3023 : (I_3007 401 this).toInt = (I_2973 401 this).toInt := by rw [hg_3010.2.1 401 (by decide +kernel) (by decide +kernel)]
                        have tt_3024 : (I_3007 402 this).toInt = (I_2973 402 this).toInt := by rw [hg_3010.2.1 402 (by decide +kernel) (by decide +kernel)]
                        have tt_3025 : (I_3007 397 this).toInt = (I_2973 397 this).toInt := by rw [hg_3010.2.1 397 (by decide +kernel) (by decide +kernel)]
                        refine lv_goto (tgt := 6) hx hb dX12_either_116 (by decide +kernel) ?_
                        exact ih_2609 x_2663 (1 : Int32) (1 : Int32) I_3007 J_3008 ri_2974 _ _ _ (rg_w h_2928 (by decide +kernel)) (rg_w (rg_k (1 : Int32) 1 rfl) (by decide +kernel)) (rg_w (rg_k (1 : Int32) 1 rfl) (by decide +kernel)) (by have zc0 : (0 : Int32).toInt = 0 := rfl; have zc1 : (1 : Int32).toInt = 1 := rfl; exact ⟨fun _ => by rw [show tb + (x_2663).toInt + (1 : Int32).toInt = (tb + 1) from by omega, show K + (x_2663).toInt + (1 : Int32).toInt = K + 1 from by omega]; exact PBz_tok hpbD (by omega) (by omega) (by omega) (by omega) (by omega) (by omega) (by omega) rfl, fun q => absurd q (by decide +kernel)⟩) (Int.le_of_lt (Int.lt_of_lt_of_le (tm_lt (by omega) (by omega) (by omega)) htmA)) (by have zc0 : (0 : Int32).toInt = 0 := rfl; have zc1 : (1 : Int32).toInt = 1 := rfl; exact tm_ms2' hm_2606 ⟨Int.le_of_lt (Int.lt_of_lt_of_le (tm_lt (s := (I_2973 391 this).toInt) (k := (I_2973 393 this).toInt) (by omega) (by omega) (by omega)) (tm_lec (hp_2637.resolve_left (fun q => q (by omega))).2 (by omega) (by omega))), Or.inl (Int.lt_of_lt_of_le (tm_lt (s := (I_2973 391 this).toInt) (k := (I_2973 393 this).toInt) (by omega) (by omega) (by omega)) (tm_lec (hp_2637.resolve_left (fun q => q (by omega))).2 (by omega) (by omega)))⟩ (tm_b ((hG.1.1 391 this).2)) (by omega) (by omega)) hF hFr hG hP hD hS (lv_sub hl [5, 3, 1, 0] rfl)
            · replace hF := hF.trans (if_neg c_2649)
              have tc_3026 : (x_1949).toInt ≠ 0 := fun q => c_2649 (Int32.toInt_inj.mp q)
              have h_3027 : rg x_1949 1 1 := rg_ne c_2649 h_2615 0 rfl (by decide +kernel)
              have uh_3027 := h_3027.1
              have vh_3027 := h_3027.2
              refine lv_aload_n hx hb dX12_either_28 rfl (lv_at hl 1 rfl) ?_
              refine lv_bipush (v := 21) hx hb dX12_either_29 (by decide +kernel) ?_
              refine lv_iconst (v := 0) hx hb dX12_either_31 (by decide +kernel) ?_
              have hq1 := PBz_t hpbB
              have hq2 := PBz_w hpbB (Or.inr (by omega))
              refine pk_v (va_runV (As := [.int 21, .int 0]) (rest := []) ⟨hx, hb, hml, hown, hts⟩ (s_X12_emit l D t σ I_2631 J_2632 ri_2633 rj rq H.size tg hSH hG.1 this (21 : Int32) (0 : Int32) hL_this hK_this this_a hR_this_a hL_this_a hK_this_a hN_this_a hT_this_a (by omega) (by omega)) (cwV 2 hts (tw_V tw_905 tw_906 tw_907 tw_5 tw_908) rfl rfl rfl cv_yX12_emit_2 ⟨Nat.le_of_ble_eq_true rfl, Nat.le_of_ble_eq_true rfl⟩) ⟨pq_blind, pq_recv hK hP hL_this hK_this (by decide +kernel) rfl, pq_pre hK hN hP hD⟩ rfl rfl hl.1 rfl (lv_room (Nat.le_of_ble_eq_true rfl)) dX12_either_32 ⟨Nat.le_of_ble_eq_true rfl, Nat.le_of_ble_eq_true rfl⟩) hD hS hA (fun σ1 μ1 H locs hw_3029 hP hD hS => ?_)
              obtain ⟨I_3030, ri_3031, hu_3032, hg_3033, hp_3035, hp_3036, hp_3037, hp_3038, hfn_3039, hfr_3040⟩ := hw_3029
              obtain ⟨hu_3032a, hu_3032b⟩ := Prod.mk.inj hu_3032
              rw [hu_3032a, hu_3032b] at hP hD
              replace hF := hF.trans (bv_n hfn_3039)
              replace hFr := fr_tr hFr hfr_3040
              obtain ⟨v_3041, ev_3041, hv_3041⟩ := hp_3035
              have tt_3042 : (I_3030 398 this).toInt = (I_2631 398 this).toInt + 1 := by rw [ev_3041, pq_us]; exact hv_3041
              have tt_3043 : (I_3030 403 this).toInt = (I_2631 403 this).toInt := by rw [ev_3041, pq_uf _ _ _ (by decide +kernel)]
              have hG := GM.tr hG hg_3033 (by decide +kernel)
              have tt_3044 : (I_3030 396 this).toInt = (I_2631 396 this).toInt := by rw [hg_3033.2.1 396 (by decide +kernel) (by decide +kernel)]
              have tt_3045 : (I_3030 401 this).toInt = (I_2631 401 this).toInt := by rw [hg_3033.2.1 401 (by decide +kernel) (by decide +kernel)]
              have tt_3046 : (I_3030 402 this).toInt = (I_2631 402 this).toInt := by rw [hg_3033.2.1 402 (by decide +kernel) (by decide +kernel)]
              have tt_3047 : (I_3030 391 this).toInt = (I_2631 391 this).toInt := by rw [hg_3033.2.1 391 (by decide +kernel) (by decide +kernel)]
              have tt_3048 : (I_3030 393 this).toInt = (I_2631 393 this).toInt := by rw [hg_3033.2.1 393 (by decide +kernel) (by decide +kernel)]
              have tt_3049 : (I_3030 397 this).toInt = (I_2631 397 this).toInt := by rw [hg_3033.2.1 397 (by decide +kernel) (by decide +kernel)]
              have hpbC : PBz (I_3030 396 this).toInt (I_3030 398 this).toInt (I_3030 402 this).toInt (I_3030 391 this).toInt (I_3030 393 this).toInt (ri_3031 this_a) bb f0 fr va (tb + (x_1950).toInt + 1) nn (K + (x_1950).toInt) := by have zc0 : (0 : Int32).toInt = 0 := rfl; have zc1 : (1 : Int32).toInt = 1 := rfl; have zo : (21 : Int32).toInt = 21 := rfl; exact PBz_em (x := 21) (by rw [show K + (x_1950).toInt + 1 = (K + (x_1949).toInt + (x_1950).toInt) from by omega]; exact hpbB) (by omega) (fun j hj => hp_3036 j (by omega)) (by rw [show (I_2631 396 this).toInt + 250 + 2 * (I_2631 398 this).toInt = (I_2631 396 this).toInt + 250 + 2 * (I_2631 398 this).toInt from by omega]; exact hp_3037) (by omega) (by omega) (by omega) (by omega) (by omega) (by omega)
              refine lv_aload_n hx hb dX12_either_35 rfl (lv_at hl 1 rfl) ?_
              refine lv_bipush (v := 97) hx hb dX12_either_36 (by decide +kernel) ?_
              refine lv_bipush (v := 110) hx hb dX12_either_38 (by decide +kernel) ?_
              refine lv_bipush (v := 100) hx hb dX12_either_40 (by decide +kernel) ?_
              refine pk_l (va_runS (As := [.int 97, .int 110, .int 100]) (rest := [.ref this]) ⟨hx, hb, hml, hown, hts⟩ (s_X12_w3_x l D t σ I_3030 J_2632 ri_3031 rj rq H.size tg hSH hG.1 (97 : Int32) (110 : Int32) (100 : Int32)) (va_cwS 3 hts (tw_S tw_864 tw_865 tw_5 tw_866) rfl rfl rfl cd_yX12_w3_3 ⟨Nat.le_of_ble_eq_true rfl, Nat.le_of_ble_eq_true rfl⟩) ⟨pq_blind, pq_pre hK hN hP hD⟩ rfl rfl hl.1 rfl (lv_room (Nat.le_of_ble_eq_true rfl)) dX12_either_42 ⟨Nat.le_of_ble_eq_true rfl, Nat.le_of_ble_eq_true rfl⟩) hD hS hA (fun x_3050 σ1 μ1 H locs hw_3051 hP hD hS => ?_)
              obtain ⟨hu_3052, hfn_3055⟩ := hw_3051
              obtain ⟨hu_3052a, hu_3052b⟩ := Prod.mk.inj hu_3052
              rw [hu_3052a, hu_3052b] at hP hD
              replace hF := hF.trans (ap_n hfn_3055.symm)
              refine pk_i (va_runV (As := [.long x_3050]) (rest := []) ⟨hx, hb, hml, hown, hts⟩ (s_X12_isWord_x l D t σ I_3030 J_2632 ri_3031 rj rq H.size tg hSH hG.1 this x_3050 hL_this hK_this) (cwV 1 hts (tw_V tw_879 tw_880 tw_881 tw_5 tw_882) rfl rfl rfl cv_yX12_isWord_1 ⟨Nat.le_of_ble_eq_true rfl, Nat.le_of_ble_eq_true rfl⟩) ⟨pq_blind, pq_recv hK hP hL_this hK_this (by decide +kernel) rfl, pq_pre hK hN hP hD⟩ rfl rfl hl.1 rfl (lv_room (Nat.le_of_ble_eq_true rfl)) dX12_either_45 ⟨Nat.le_of_ble_eq_true rfl, Nat.le_of_ble_eq_true rfl⟩) hD hS hA (fun x_3057 σ1 μ1 H locs hw_3058 hP hD hS => ?_)
              obtain ⟨hu_3059, hfn_3062, hr_3061⟩ := hw_3058
              obtain ⟨hu_3059a, hu_3059b⟩ := Prod.mk.inj hu_3059
              rw [hu_3059a, hu_3059b] at hP hD
              replace hF := hF.trans (bn_n hfn_3062)
              have h_3064 : rg x_3057 0 1 := by rcases hr_3061 with ⟨q, -⟩ | ⟨q, -⟩ <;> rw [q] <;> exact ⟨by decide +kernel, by decide +kernel⟩
              have uh_3064 := h_3064.1
              have vh_3064 := h_3064.2
              refine lv_istore_n (lv' := [(1, .int x_3057), (4, .int x_2629), (0, .ref this), (2, .int x_1950), (3, .int x_1951)]) hx hb dX12_either_48 rfl hl (by decide +kernel) rfl (fun ls hl => ?_)
              refine lv_aload_n hx hb dX12_either_49 rfl (lv_at hl 2 rfl) ?_
              refine pg_f (v := .int (I_3030 393 this)) (C := RX12) (T := TX12) (N := 31) hx hb hts (tw_i inlX12) hown hK hP hL_this hK_this (by decide +kernel) rfl 9 (by decide +kernel) (hts _ (tw_c tw_831)) rfl dX12_either_50 ?_
              replace hF := hF.trans (ap_n (vI_e (f := 393) hO_this (by decide +kernel)))
              refine lv_iconst (v := 2) hx hb dX12_either_53 (by decide +kernel) ?_
              refine lv_icmp_ne (tgt := 72) hx hb dX12_either_54 (by decide +kernel) (fun c_3066 => ?_) (fun c_3066 => ?_)
              · replace hF := hF.trans (if_neg c_3066)
                have tc_3070 : (I_3030 393 this).toInt ≠ 2 := fun q => c_3066 (Int32.toInt_inj.mp q)
                refine lv_iconst (v := 0) hx hb dX12_either_72 (by decide +kernel) ?_
                refine lv_istore (lv' := [(5, .int 0), (1, .int x_3057), (4, .int x_2629), (0, .ref this), (2, .int x_1950), (3, .int x_1951)]) hx hb dX12_either_73 hl (by decide +kernel) rfl (fun ls hl => ?_)
                refine lv_iload_n hx hb dX12_either_75 rfl (lv_at hl 1 rfl) ?_
                refine lv_if_ne (tgt := 93) hx hb dX12_either_76 (by decide +kernel) (fun c_3071 => ?_) (fun c_3071 => ?_)
                · replace hF := hF.trans (if_neg c_3071)
                  have f_3078 := (hr_3061.resolve_right (fun q => c_3071 q.1)).2
                  have tc_3079 : (x_3057).toInt ≠ 0 := fun q => c_3071 (Int32.toInt_inj.mp q)
                  have h_3080 : rg x_3057 1 1 := rg_ne c_3071 h_3064 0 rfl (by decide +kernel)
                  have uh_3080 := h_3080.1
                  have vh_3080 := h_3080.2
                  refine lv_iload_n hx hb dX12_either_93 rfl (lv_at hl 1 rfl) ?_
                  refine lv_if_ne (tgt := 102) hx hb dX12_either_94 (by decide +kernel) (fun c_3081 => ?_) (fun c_3081 => ?_)
                  · have f_3086 := (hr_3061.resolve_right (fun q => c_3081 q.1)).2
                    have tc_3087 : (x_3057).toInt ≠ 0 := fun q => c_3081 (Int32.toInt_inj.mp q)
                    refine lv_iconst (v := 1) hx hb dX12_either_102 (by decide +kernel) ?_
                    refine lv_goto (tgt := 107) hx hb dX12_either_103 (by decide +kernel) ?_
                    refine lv_istore_n (lv' := [(3, .int 1), (5, .int 0), (1, .int x_3057), (4, .int x_2629), (0, .ref this), (2, .int x_1950)]) hx hb dX12_either_107 rfl hl (by decide +kernel) rfl (fun ls hl => ?_)
                    refine lv_iload_n hx hb dX12_either_108 rfl (lv_at hl 0 rfl) ?_
                    refine lv_if_eq (tgt := 116) hx hb dX12_either_109 (by decide +kernel) (fun c_3088 => absurd c_3088 (by decide +kernel)) (fun c_3088 => ?_)
                    refine lv_aload_n hx hb dX12_either_112 rfl (lv_at hl 4 rfl) ?_
                    obtain ⟨w_3089, hR_w_3089, hL_w_3089, hK_w_3089, hN_w_3089, hT_w_3089⟩ := sh_a hSH 387 (ci := 12) (kd := 13) (len := 300) rfl (by decide +kernel) hL_this hK_this
                    have hO_w_3089 : w_3089 = vrow σ 387 this := vo_k (c := 12) hO_this hR_w_3089
                    refine pk_v (va_runV (As := []) (rest := []) ⟨hx, hb, hml, hown, hts⟩ (s_X12_nextToken_x l D t σ I_3030 J_2632 ri_3031 rj rq H.size tg hSH hG.1 this hL_this hK_this w_3089 hR_w_3089 hL_w_3089 hK_w_3089 hN_w_3089 hT_w_3089) (cwV 0 hts (tw_V tw_832 tw_833 tw_834 tw_5 tw_835) rfl rfl rfl cv_yX12_nextToken_0 ⟨Nat.le_of_ble_eq_true rfl, Nat.le_of_ble_eq_true rfl⟩) ⟨pq_blind, pq_recv hK hP hL_this hK_this (by decide +kernel) rfl, pq_pre hK hN hP hD⟩ rfl rfl hl.1 rfl (lv_room (Nat.le_of_ble_eq_true rfl)) dX12_either_113 ⟨Nat.le_of_ble_eq_true rfl, Nat.le_of_ble_eq_true rfl⟩) hD hS hA (fun σ1 μ1 H locs hw_3091 hP hD hS => ?_)
                    obtain ⟨I_3092, J_3093, hu_3094, hg_3095, hp_3097, hp_3098, hp_3099, hfn_3100, hfr_3101⟩ := hw_3091
                    obtain ⟨hu_3094a, hu_3094b⟩ := Prod.mk.inj hu_3094
                    rw [hu_3094a, hu_3094b] at hP hD
                    replace hF := hF.trans (bv_n hfn_3100)
                    replace hFr := fr_tr hFr hfr_3101
                    have tt_3102 := hp_3097
                    have tt_3103 := hp_3098
                    have tt_3104 := hp_3099
                    have tt_3105 : (I_3092 391 this).toInt ≤ 300 := by have z := hg_3095.1.1 391 this; exact z.2
                    have hG := GM.tr hG hg_3095 (by decide +kernel)
                    have tt_3106 : (I_3092 396 this).toInt = (I_3030 396 this).toInt := by rw [hg_3095.2.1 396 (by decide +kernel) (by decide +kernel)]
                    have tt_3107 : (I_3092 398 this).toInt = (I_3030 398 this).toInt := by rw [hg_3095.2.1 398 (by decide +kernel) (by decide +kernel)]
                    have tt_3108 : (I_3092 401 this).toInt = (I_3030 401 this).toInt := by rw [hg_3095.2.1 401 (by decide +kernel) (by decide +kernel)]
                    have tt_3109 : (I_3092 402 this).toInt = (I_3030 402 this).toInt := by rw [hg_3095.2.1 402 (by decide +kernel) (by decide +kernel)]
                    have tt_3110 : (I_3092 397 this).toInt = (I_3030 397 this).toInt := by rw [hg_3095.2.1 397 (by decide +kernel) (by decide +kernel)]
                    refine lv_goto (tgt := 6) hx hb dX12_either_116 (by decide +kernel) ?_
                    exact ih_2609 x_3057 x_1950 (1 : Int32) I_3092 J_3093 ri_3031 _ _ _ (rg_w h_3080 (by decide +kernel)) (rg_w h_2616 (by decide +kernel)) (rg_w (rg_k (1 : Int32) 1 rfl) (by decide +kernel)) (by have zc0 : (0 : Int32).toInt = 0 := rfl; have zc1 : (1 : Int32).toInt = 1 := rfl; exact ⟨fun _ => by rw [show tb + (x_3057).toInt + (x_1950).toInt = (tb + (x_1950).toInt + 1) from by omega, show K + (x_3057).toInt + (x_1950).toInt = (K + (x_1950).toInt) + 1 from by omega]; exact PBz_tok hpbC (by omega) (by omega) (by omega) (by omega) (by omega) (by omega) (by omega) rfl, fun q => absurd q (by decide +kernel)⟩) (Int.le_of_lt (Int.lt_of_lt_of_le (tm_lt (by omega) (by omega) (by omega)) htmA)) (by have zc0 : (0 : Int32).toInt = 0 := rfl; have zc1 : (1 : Int32).toInt = 1 := rfl; exact tm_ms2' hm_2606 ⟨Int.le_of_lt (Int.lt_of_lt_of_le (tm_lt (s := (I_3030 391 this).toInt) (k := (I_3030 393 this).toInt) (by omega) (by omega) (by omega)) (tm_lec (hp_2637.resolve_left (fun q => q (by omega))).2 (by omega) (by omega))), Or.inl (Int.lt_of_lt_of_le (tm_lt (s := (I_3030 391 this).toInt) (k := (I_3030 393 this).toInt) (by omega) (by omega) (by omega)) (tm_lec (hp_2637.resolve_left (fun q => q (by omega))).2 (by omega) (by omega)))⟩ (tm_b ((hG.1.1 391 this).2)) (by omega) (by omega)) hF hFr hG hP hD hS (lv_sub hl [4, 2, 5, 0] rfl)
                  · have f_3111 := (hr_3061.resolve_left (fun q => absurd (q.1.symm.trans c_3081) (by decide +kernel))).2
                    have tc_3112 : (x_3057).toInt = 0 := congrArg Int32.toInt c_3081
                    exact (rg_empty (rg_and h_3080 (rg_of_eq c_3081 (rg_k (0 : Int32) 0 rfl)) (lo := 1) (hi := 0) (by decide +kernel)) (by decide +kernel)).elim
                · replace hF := hF.trans (if_pos c_3071)
                  have f_3113 := (hr_3061.resolve_left (fun q => absurd (q.1.symm.trans c_3071) (by decide +kernel))).2
                  have tc_3114 : (x_3057).toInt = 0 := congrArg Int32.toInt c_3071
                  have h_3115 : rg x_3057 0 0 := rg_and h_3064 (rg_of_eq c_3071 (rg_k (0 : Int32) 0 rfl)) (by decide +kernel)
                  have uh_3115 := h_3115.1
                  have vh_3115 := h_3115.2
                  refine lv_iload_n hx hb dX12_either_79 rfl (lv_at hl 4 rfl) ?_
                  refine lv_if_eq (tgt := 90) hx hb dX12_either_80 (by decide +kernel) (fun c_3116 => ?_) (fun c_3116 => ?_)
                  · replace hF := hF.trans (if_pos c_3116)
                    have tc_3121 : (x_1950).toInt = 0 := congrArg Int32.toInt c_3116
                    have h_3122 : rg x_1950 0 0 := rg_and h_2616 (rg_of_eq c_3116 (rg_k (0 : Int32) 0 rfl)) (by decide +kernel)
                    have uh_3122 := h_3122.1
                    have vh_3122 := h_3122.2
                    have hpbD : PBz (I_3030 396 this).toInt (I_3030 398 this).toInt (I_3030 402 this).toInt (I_3030 391 this).toInt (I_3030 393 this).toInt (ri_3031 this_a) bb f0 fr va (tb + 1) nn K := by have q := hpbC; rw [show (tb + (x_1950).toInt + 1) = tb + 1 from by omega, show (K + (x_1950).toInt) = K from by omega] at q; exact q
                    refine lv_iload hx hb dX12_either_90 (lv_at hl 0 rfl) ?_
                    refine lv_istore_n (lv' := [(2, .int 0), (5, .int 0), (1, .int x_3057), (4, .int x_2629), (0, .ref this), (3, .int x_1951)]) hx hb dX12_either_92 rfl hl (by decide +kernel) rfl (fun ls hl => ?_)
                    refine lv_iload_n hx hb dX12_either_93 rfl (lv_at hl 2 rfl) ?_
                    refine lv_if_ne (tgt := 102) hx hb dX12_either_94 (by decide +kernel) (fun c_3123 => ?_) (fun c_3123 => ?_)
                    · have f_3128 := (hr_3061.resolve_right (fun q => c_3123 q.1)).2
                      have tc_3129 : (x_3057).toInt ≠ 0 := fun q => c_3123 (Int32.toInt_inj.mp q)
                      exact (rg_empty (rg_ne c_3123 h_3115 0 rfl (lo := 1) (hi := (-1)) (by decide +kernel)) (by decide +kernel)).elim
                    · have f_3130 := (hr_3061.resolve_left (fun q => absurd (q.1.symm.trans c_3123) (by decide +kernel))).2
                      have tc_3131 : (x_3057).toInt = 0 := congrArg Int32.toInt c_3123
                      refine lv_iload hx hb dX12_either_97 (lv_at hl 1 rfl) ?_
                      refine lv_if_eq (tgt := 106) hx hb dX12_either_99 (by decide +kernel) (fun c_3132 => ?_) (fun c_3132 => absurd c_3132 (by decide +kernel))
                      refine lv_iconst (v := 0) hx hb dX12_either_106 (by decide +kernel) ?_
                      refine lv_istore_n (lv' := [(3, .int 0), (2, .int 0), (5, .int 0), (1, .int x_3057), (4, .int x_2629), (0, .ref this)]) hx hb dX12_either_107 rfl hl (by decide +kernel) rfl (fun ls hl => ?_)
                      refine lv_iload_n hx hb dX12_either_108 rfl (lv_at hl 0 rfl) ?_
                      refine lv_if_eq (tgt := 116) hx hb dX12_either_109 (by decide +kernel) (fun c_3133 => ?_) (fun c_3133 => absurd c_3133 (by decide +kernel))
                      refine lv_goto (tgt := 6) hx hb dX12_either_116 (by decide +kernel) ?_
                      exact ih_2609 x_3057 (0 : Int32) (0 : Int32) I_3030 J_2632 ri_3031 _ _ _ (rg_w h_3115 (by decide +kernel)) (rg_w (rg_k (0 : Int32) 0 rfl) (by decide +kernel)) (rg_w (rg_k (0 : Int32) 0 rfl) (by decide +kernel)) (by have zc0 : (0 : Int32).toInt = 0 := rfl; have zc1 : (1 : Int32).toInt = 1 := rfl; exact ⟨fun q => absurd q (by decide +kernel), fun _ => PBz_cg hpbD (by omega) (by omega) (by omega) (by omega) (by omega) rfl⟩) (tm_lec htmA (by omega) (by omega)) (by have zc0 : (0 : Int32).toInt = 0 := rfl; have zc1 : (1 : Int32).toInt = 1 := rfl; exact tm_ms2' hm_2606 ⟨tm_lec (hp_2637.resolve_left (fun q => q (by omega))).2 (by omega) (by omega), Or.inr (by omega)⟩ (tm_b ((hG.1.1 391 this).2)) (by omega) (by omega)) hF hFr hG hP hD hS (lv_sub hl [5, 3, 1, 0] rfl)
                  · replace hF := hF.trans (if_neg c_3116)
                    have tc_3134 : (x_1950).toInt ≠ 0 := fun q => c_3116 (Int32.toInt_inj.mp q)
                    have h_3135 : rg x_1950 1 1 := rg_ne c_3116 h_2616 0 rfl (by decide +kernel)
                    have uh_3135 := h_3135.1
                    have vh_3135 := h_3135.2
                    refine lv_aload_n hx hb dX12_either_83 rfl (lv_at hl 3 rfl) ?_
                    refine lv_bipush (v := 22) hx hb dX12_either_84 (by decide +kernel) ?_
                    refine lv_iconst (v := 0) hx hb dX12_either_86 (by decide +kernel) ?_
                    have hq1 := PBz_t hpbC
                    have hq2 := PBz_w hpbC (Or.inr (by omega))
                    refine pk_v (va_runV (As := [.int 22, .int 0]) (rest := []) ⟨hx, hb, hml, hown, hts⟩ (s_X12_emit l D t σ I_3030 J_2632 ri_3031 rj rq H.size tg hSH hG.1 this (22 : Int32) (0 : Int32) hL_this hK_this this_a hR_this_a hL_this_a hK_this_a hN_this_a hT_this_a (by omega) (by omega)) (cwV 2 hts (tw_V tw_905 tw_906 tw_907 tw_5 tw_908) rfl rfl rfl cv_yX12_emit_2 ⟨Nat.le_of_ble_eq_true rfl, Nat.le_of_ble_eq_true rfl⟩) ⟨pq_blind, pq_recv hK hP hL_this hK_this (by decide +kernel) rfl, pq_pre hK hN hP hD⟩ rfl rfl hl.1 rfl (lv_room (Nat.le_of_ble_eq_true rfl)) dX12_either_87 ⟨Nat.le_of_ble_eq_true rfl, Nat.le_of_ble_eq_true rfl⟩) hD hS hA (fun σ1 μ1 H locs hw_3137 hP hD hS => ?_)
                    obtain ⟨I_3138, ri_3139, hu_3140, hg_3141, hp_3143, hp_3144, hp_3145, hp_3146, hfn_3147, hfr_3148⟩ := hw_3137
                    obtain ⟨hu_3140a, hu_3140b⟩ := Prod.mk.inj hu_3140
                    rw [hu_3140a, hu_3140b] at hP hD
                    replace hF := hF.trans (bv_n hfn_3147)
                    replace hFr := fr_tr hFr hfr_3148
                    obtain ⟨v_3149, ev_3149, hv_3149⟩ := hp_3143
                    have tt_3150 : (I_3138 398 this).toInt = (I_3030 398 this).toInt + 1 := by rw [ev_3149, pq_us]; exact hv_3149
                    have tt_3151 : (I_3138 403 this).toInt = (I_3030 403 this).toInt := by rw [ev_3149, pq_uf _ _ _ (by decide +kernel)]
                    have hG := GM.tr hG hg_3141 (by decide +kernel)
                    have tt_3152 : (I_3138 396 this).toInt = (I_3030 396 this).toInt := by rw [hg_3141.2.1 396 (by decide +kernel) (by decide +kernel)]
                    have tt_3153 : (I_3138 401 this).toInt = (I_3030 401 this).toInt := by rw [hg_3141.2.1 401 (by decide +kernel) (by decide +kernel)]
                    have tt_3154 : (I_3138 402 this).toInt = (I_3030 402 this).toInt := by rw [hg_3141.2.1 402 (by decide +kernel) (by decide +kernel)]
                    have tt_3155 : (I_3138 391 this).toInt = (I_3030 391 this).toInt := by rw [hg_3141.2.1 391 (by decide +kernel) (by decide +kernel)]
                    have tt_3156 : (I_3138 393 this).toInt = (I_3030 393 this).toInt := by rw [hg_3141.2.1 393 (by decide +kernel) (by decide +kernel)]
                    have tt_3157 : (I_3138 397 this).toInt = (I_3030 397 this).toInt := by rw [hg_3141.2.1 397 (by decide +kernel) (by decide +kernel)]
                    have hpbD : PBz (I_3138 396 this).toInt (I_3138 398 this).toInt (I_3138 402 this).toInt (I_3138 391 this).toInt (I_3138 393 this).toInt (ri_3139 this_a) bb f0 fr va (tb + 1) nn K := by have zc0 : (0 : Int32).toInt = 0 := rfl; have zc1 : (1 : Int32).toInt = 1 := rfl; have zo : (22 : Int32).toInt = 22 := rfl; exact PBz_em (x := 22) (by rw [show K + 1 = (K + (x_1950).toInt) from by omega]; exact hpbC) (by omega) (fun j hj => hp_3144 j (by omega)) (by rw [show (I_3030 396 this).toInt + 250 + 2 * (I_3030 398 this).toInt = (I_3030 396 this).toInt + 250 + 2 * (I_3030 398 this).toInt from by omega]; exact hp_3145) (by omega) (by omega) (by omega) (by omega) (by omega) (by omega)
                    refine lv_iload hx hb dX12_either_90 (lv_at hl 0 rfl) ?_
                    refine lv_istore_n (lv' := [(2, .int 0), (5, .int 0), (1, .int x_3057), (4, .int x_2629), (0, .ref this), (3, .int x_1951)]) hx hb dX12_either_92 rfl hl (by decide +kernel) rfl (fun ls hl => ?_)
                    refine lv_iload_n hx hb dX12_either_93 rfl (lv_at hl 2 rfl) ?_
                    refine lv_if_ne (tgt := 102) hx hb dX12_either_94 (by decide +kernel) (fun c_3158 => ?_) (fun c_3158 => ?_)
                    · have f_3163 := (hr_3061.resolve_right (fun q => c_3158 q.1)).2
                      have tc_3164 : (x_3057).toInt ≠ 0 := fun q => c_3158 (Int32.toInt_inj.mp q)
                      exact (rg_empty (rg_ne c_3158 h_3115 0 rfl (lo := 1) (hi := (-1)) (by decide +kernel)) (by decide +kernel)).elim
                    · have f_3165 := (hr_3061.resolve_left (fun q => absurd (q.1.symm.trans c_3158) (by decide +kernel))).2
                      have tc_3166 : (x_3057).toInt = 0 := congrArg Int32.toInt c_3158
                      refine lv_iload hx hb dX12_either_97 (lv_at hl 1 rfl) ?_
                      refine lv_if_eq (tgt := 106) hx hb dX12_either_99 (by decide +kernel) (fun c_3167 => ?_) (fun c_3167 => absurd c_3167 (by decide +kernel))
                      refine lv_iconst (v := 0) hx hb dX12_either_106 (by decide +kernel) ?_
                      refine lv_istore_n (lv' := [(3, .int 0), (2, .int 0), (5, .int 0), (1, .int x_3057), (4, .int x_2629), (0, .ref this)]) hx hb dX12_either_107 rfl hl (by decide +kernel) rfl (fun ls hl => ?_)
                      refine lv_iload_n hx hb dX12_either_108 rfl (lv_at hl 0 rfl) ?_
                      refine lv_if_eq (tgt := 116) hx hb dX12_either_109 (by decide +kernel) (fun c_3168 => ?_) (fun c_3168 => absurd c_3168 (by decide +kernel))
                      refine lv_goto (tgt := 6) hx hb dX12_either_116 (by decide +kernel) ?_
                      exact ih_2609 x_3057 (0 : Int32) (0 : Int32) I_3138 J_2632 ri_3139 _ _ _ (rg_w h_3115 (by decide +kernel)) (rg_w (rg_k (0 : Int32) 0 rfl) (by decide +kernel)) (rg_w (rg_k (0 : Int32) 0 rfl) (by decide +kernel)) (by have zc0 : (0 : Int32).toInt = 0 := rfl; have zc1 : (1 : Int32).toInt = 1 := rfl; exact ⟨fun q => absurd q (by decide +kernel), fun _ => PBz_cg hpbD (by omega) (by omega) (by omega) (by omega) (by omega) rfl⟩) (tm_lec htmA (by omega) (by omega)) (by have zc0 : (0 : Int32).toInt = 0 := rfl; have zc1 : (1 : Int32).toInt = 1 := rfl; exact tm_ms2' hm_2606 ⟨tm_lec (hp_2637.resolve_left (fun q => q (by omega))).2 (by omega) (by omega), Or.inr (by omega)⟩ (tm_b ((hG.1.1 391 this).2)) (by omega) (by omega)) hF hFr hG hP hD hS (lv_sub hl [5, 3, 1, 0] rfl)
              · replace hF := hF.trans (if_pos c_3066)
                have tc_3169 : (I_3030 393 this).toInt = 2 := congrArg Int32.toInt c_3066
                have h_3170 : rg (I_3030 393 this) 2 2 := rg_and (rg_full _) (rg_of_eq c_3066 (rg_k (2 : Int32) 2 rfl)) (by decide +kernel)
                have uh_3170 := h_3170.1
                have vh_3170 := h_3170.2
                refine lv_aload_n hx hb dX12_either_57 rfl (lv_at hl 2 rfl) ?_
                refine pg_f (v := .long (J_2632 395 this)) (C := RX12) (T := TX12) (N := 31) hx hb hts (tw_i inlX12) hown hK hP hL_this hK_this (by decide +kernel) rfl 11 (by decide +kernel) (hts _ (tw_c tw_838)) rfl dX12_either_58 ?_
                replace hF := hF.trans (ap_n (vJ_e (f := 395) hO_this (by decide +kernel)))
                refine lv_ldc2 hx hb hown (hts _ (tw_c tw_874)) dX12_either_61 ?_
                refine W.lcmp hx hb dX12_either_64 ?_
                refine lv_topi (fun x_3172 ex_3172 => ?_)
                replace hF := hF.trans (ap_n ex_3172)
                refine lv_if_ne (tgt := 72) hx hb dX12_either_65 (by decide +kernel) (fun c_3173 => ?_) (fun c_3173 => ?_)
                · replace hF := hF.trans (if_neg c_3173)
                  have tc_3177 : (x_3172).toInt ≠ 0 := fun q => c_3173 (Int32.toInt_inj.mp q)
                  refine lv_iconst (v := 0) hx hb dX12_either_72 (by decide +kernel) ?_
                  refine lv_istore (lv' := [(5, .int 0), (1, .int x_3057), (4, .int x_2629), (0, .ref this), (2, .int x_1950), (3, .int x_1951)]) hx hb dX12_either_73 hl (by decide +kernel) rfl (fun ls hl => ?_)
                  refine lv_iload_n hx hb dX12_either_75 rfl (lv_at hl 1 rfl) ?_
                  refine lv_if_ne (tgt := 93) hx hb dX12_either_76 (by decide +kernel) (fun c_3178 => ?_) (fun c_3178 => ?_)
                  · replace hF := hF.trans (if_neg c_3178)
                    have f_3185 := (hr_3061.resolve_right (fun q => c_3178 q.1)).2
                    have tc_3186 : (x_3057).toInt ≠ 0 := fun q => c_3178 (Int32.toInt_inj.mp q)
                    have h_3187 : rg x_3057 1 1 := rg_ne c_3178 h_3064 0 rfl (by decide +kernel)
                    have uh_3187 := h_3187.1
                    have vh_3187 := h_3187.2
                    refine lv_iload_n hx hb dX12_either_93 rfl (lv_at hl 1 rfl) ?_
                    refine lv_if_ne (tgt := 102) hx hb dX12_either_94 (by decide +kernel) (fun c_3188 => ?_) (fun c_3188 => ?_)
                    · have f_3193 := (hr_3061.resolve_right (fun q => c_3188 q.1)).2
                      have tc_3194 : (x_3057).toInt ≠ 0 := fun q => c_3188 (Int32.toInt_inj.mp q)
                      refine lv_iconst (v := 1) hx hb dX12_either_102 (by decide +kernel) ?_
                      refine lv_goto (tgt := 107) hx hb dX12_either_103 (by decide +kernel) ?_
                      refine lv_istore_n (lv' := [(3, .int 1), (5, .int 0), (1, .int x_3057), (4, .int x_2629), (0, .ref this), (2, .int x_1950)]) hx hb dX12_either_107 rfl hl (by decide +kernel) rfl (fun ls hl => ?_)
                      refine lv_iload_n hx hb dX12_either_108 rfl (lv_at hl 0 rfl) ?_
                      refine lv_if_eq (tgt := 116) hx hb dX12_either_109 (by decide +kernel) (fun c_3195 => absurd c_3195 (by decide +kernel)) (fun c_3195 => ?_)
                      refine lv_aload_n hx hb dX12_either_112 rfl (lv_at hl 4 rfl) ?_
                      obtain ⟨w_3196, hR_w_3196, hL_w_3196, hK_w_3196, hN_w_3196, hT_w_3196⟩ := sh_a hSH 387 (ci := 12) (kd := 13) (len := 300) rfl (by decide +kernel) hL_this hK_this
                      have hO_w_3196 : w_3196 = vrow σ 387 this := vo_k (c := 12) hO_this hR_w_3196
                      refine pk_v (va_runV (As := []) (rest := []) ⟨hx, hb, hml, hown, hts⟩ (s_X12_nextToken_x l D t σ I_3030 J_2632 ri_3031 rj rq H.size tg hSH hG.1 this hL_this hK_this w_3196 hR_w_3196 hL_w_3196 hK_w_3196 hN_w_3196 hT_w_3196) (cwV 0 hts (tw_V tw_832 tw_833 tw_834 tw_5 tw_835) rfl rfl rfl cv_yX12_nextToken_0 ⟨Nat.le_of_ble_eq_true rfl, Nat.le_of_ble_eq_true rfl⟩) ⟨pq_blind, pq_recv hK hP hL_this hK_this (by decide +kernel) rfl, pq_pre hK hN hP hD⟩ rfl rfl hl.1 rfl (lv_room (Nat.le_of_ble_eq_true rfl)) dX12_either_113 ⟨Nat.le_of_ble_eq_true rfl, Nat.le_of_ble_eq_true rfl⟩) hD hS hA (fun σ1 μ1 H locs hw_3198 hP hD hS => ?_)
                      obtain ⟨I_3199, J_3200, hu_3201, hg_3202, hp_3204, hp_3205, hp_3206, hfn_3207, hfr_3208⟩ := hw_3198
                      obtain ⟨hu_3201a, hu_3201b⟩ := Prod.mk.inj hu_3201
                      rw [hu_3201a, hu_3201b] at hP hD
                      replace hF := hF.trans (bv_n hfn_3207)
                      replace hFr := fr_tr hFr hfr_3208
                      have tt_3209 := hp_3204
                      have tt_3210 := hp_3205
                      have tt_3211 := hp_3206
                      have tt_3212 : (I_3199 391 this).toInt ≤ 300 := by have z := hg_3202.1.1 391 this; exact z.2
                      have hG := GM.tr hG hg_3202 (by decide +kernel)
                      have tt_3213 : (I_3199 396 this).toInt = (I_3030 396 this).toInt := by rw [hg_3202.2.1 396 (by decide +kernel) (by decide +kernel)]
                      have tt_3214 : (I_3199 398 this).toInt = (I_3030 398 this).toInt := by rw [hg_3202.2.1 398 (by decide +kernel) (by decide +kernel)]
                      have tt_3215 : (I_3199 401 this).toInt = (I_3030 401 this).toInt := by rw [hg_3202.2.1 401 (by decide +kernel) (by decide +kernel)]
                      have tt_3216 : (I_3199 402 this).toInt = (I_3030 402 this).toInt := by rw [hg_3202.2.1 402 (by decide +kernel) (by decide +kernel)]
                      have tt_3217 : (I_3199 397 this).toInt = (I_3030 397 this).toInt := by rw [hg_3202.2.1 397 (by decide +kernel) (by decide +kernel)]
                      refine lv_goto (tgt := 6) hx hb dX12_either_116 (by decide +kernel) ?_
                      exact ih_2609 x_3057 x_1950 (1 : Int32) I_3199 J_3200 ri_3031 _ _ _ (rg_w h_3187 (by decide +kernel)) (rg_w h_2616 (by decide +kernel)) (rg_w (rg_k (1 : Int32) 1 rfl) (by decide +kernel)) (by have zc0 : (0 : Int32).toInt = 0 := rfl; have zc1 : (1 : Int32).toInt = 1 := rfl; exact ⟨fun _ => by rw [show tb + (x_3057).toInt + (x_1950).toInt = (tb + (x_1950).toInt + 1) from by omega, show K + (x_3057).toInt + (x_1950).toInt = (K + (x_1950).toInt) + 1 from by omega]; exact PBz_tok hpbC (by omega) (by omega) (by omega) (by omega) (by omega) (by omega) (by omega) rfl, fun q => absurd q (by decide +kernel)⟩) (Int.le_of_lt (Int.lt_of_lt_of_le (tm_lt (by omega) (by omega) (by omega)) htmA)) (by have zc0 : (0 : Int32).toInt = 0 := rfl; have zc1 : (1 : Int32).toInt = 1 := rfl; exact tm_ms2' hm_2606 ⟨Int.le_of_lt (Int.lt_of_lt_of_le (tm_lt (s := (I_3030 391 this).toInt) (k := (I_3030 393 this).toInt) (by omega) (by omega) (by omega)) (tm_lec (hp_2637.resolve_left (fun q => q (by omega))).2 (by omega) (by omega))), Or.inl (Int.lt_of_lt_of_le (tm_lt (s := (I_3030 391 this).toInt) (k := (I_3030 393 this).toInt) (by omega) (by omega) (by omega)) (tm_lec (hp_2637.resolve_left (fun q => q (by omega))).2 (by omega) (by omega)))⟩ (tm_b ((hG.1.1 391 this).2)) (by omega) (by omega)) hF hFr hG hP hD hS (lv_sub hl [4, 2, 5, 0] rfl)
                    · have f_3218 := (hr_3061.resolve_left (fun q => absurd (q.1.symm.trans c_3188) (by decide +kernel))).2
                      have tc_3219 : (x_3057).toInt = 0 := congrArg Int32.toInt c_3188
                      exact (rg_empty (rg_and h_3187 (rg_of_eq c_3188 (rg_k (0 : Int32) 0 rfl)) (lo := 1) (hi := 0) (by decide +kernel)) (by decide +kernel)).elim
                  · replace hF := hF.trans (if_pos c_3178)
                    have f_3220 := (hr_3061.resolve_left (fun q => absurd (q.1.symm.trans c_3178) (by decide +kernel))).2
                    have tc_3221 : (x_3057).toInt = 0 := congrArg Int32.toInt c_3178
                    have h_3222 : rg x_3057 0 0 := rg_and h_3064 (rg_of_eq c_3178 (rg_k (0 : Int32) 0 rfl)) (by decide +kernel)
                    have uh_3222 := h_3222.1
                    have vh_3222 := h_3222.2
                    refine lv_iload_n hx hb dX12_either_79 rfl (lv_at hl 4 rfl) ?_
                    refine lv_if_eq (tgt := 90) hx hb dX12_either_80 (by decide +kernel) (fun c_3223 => ?_) (fun c_3223 => ?_)
                    · replace hF := hF.trans (if_pos c_3223)
                      have tc_3228 : (x_1950).toInt = 0 := congrArg Int32.toInt c_3223
                      have h_3229 : rg x_1950 0 0 := rg_and h_2616 (rg_of_eq c_3223 (rg_k (0 : Int32) 0 rfl)) (by decide +kernel)
                      have uh_3229 := h_3229.1
                      have vh_3229 := h_3229.2
                      have hpbD : PBz (I_3030 396 this).toInt (I_3030 398 this).toInt (I_3030 402 this).toInt (I_3030 391 this).toInt (I_3030 393 this).toInt (ri_3031 this_a) bb f0 fr va (tb + 1) nn K := by have q := hpbC; rw [show (tb + (x_1950).toInt + 1) = tb + 1 from by omega, show (K + (x_1950).toInt) = K from by omega] at q; exact q
                      refine lv_iload hx hb dX12_either_90 (lv_at hl 0 rfl) ?_
                      refine lv_istore_n (lv' := [(2, .int 0), (5, .int 0), (1, .int x_3057), (4, .int x_2629), (0, .ref this), (3, .int x_1951)]) hx hb dX12_either_92 rfl hl (by decide +kernel) rfl (fun ls hl => ?_)
                      refine lv_iload_n hx hb dX12_either_93 rfl (lv_at hl 2 rfl) ?_
                      refine lv_if_ne (tgt := 102) hx hb dX12_either_94 (by decide +kernel) (fun c_3230 => ?_) (fun c_3230 => ?_)
                      · have f_3235 := (hr_3061.resolve_right (fun q => c_3230 q.1)).2
                        have tc_3236 : (x_3057).toInt ≠ 0 := fun q => c_3230 (Int32.toInt_inj.mp q)
                        exact (rg_empty (rg_ne c_3230 h_3222 0 rfl (lo := 1) (hi := (-1)) (by decide +kernel)) (by decide +kernel)).elim
                      · have f_3237 := (hr_3061.resolve_left (fun q => absurd (q.1.symm.trans c_3230) (by decide +kernel))).2
                        have tc_3238 : (x_3057).toInt = 0 := congrArg Int32.toInt c_3230
                        refine lv_iload hx hb dX12_either_97 (lv_at hl 1 rfl) ?_
                        refine lv_if_eq (tgt := 106) hx hb dX12_either_99 (by decide +kernel) (fun c_3239 => ?_) (fun c_3239 => absurd c_3239 (by decide +kernel))
                        refine lv_iconst (v := 0) hx hb dX12_either_106 (by decide +kernel) ?_
                        refine lv_istore_n (lv' := [(3, .int 0), (2, .int 0), (5, .int 0), (1, .int x_3057), (4, .int x_2629), (0, .ref this)]) hx hb dX12_either_107 rfl hl (by decide +kernel) rfl (fun ls hl => ?_)
                        refine lv_iload_n hx hb dX12_either_108 rfl (lv_at hl 0 rfl) ?_
                        refine lv_if_eq (tgt := 116) hx hb dX12_either_109 (by decide +kernel) (fun c_3240 => ?_) (fun c_3240 => absurd c_3240 (by decide +kernel))
                        refine lv_goto (tgt := 6) hx hb dX12_either_116 (by decide +kernel) ?_
                        exact ih_2609 x_3057 (0 : Int32) (0 : Int32) I_3030 J_2632 ri_3031 _ _ _ (rg_w h_3222 (by decide +kernel)) (rg_w (rg_k (0 : Int32) 0 rfl) (by decide +kernel)) (rg_w (rg_k (0 : Int32) 0 rfl) (by decide +kernel)) (by have zc0 : (0 : Int32).toInt = 0 := rfl; have zc1 : (1 : Int32).toInt = 1 := rfl; exact ⟨fun q => absurd q (by decide +kernel), fun _ => PBz_cg hpbD (by omega) (by omega) (by omega) (by omega) (by omega) rfl⟩) (tm_lec htmA (by omega) (by omega)) (by have zc0 : (0 : Int32).toInt = 0 := rfl; have zc1 : (1 : Int32).toInt = 1 := rfl; exact tm_ms2' hm_2606 ⟨tm_lec (hp_2637.resolve_left (fun q => q (by omega))).2 (by omega) (by omega), Or.inr (by omega)⟩ (tm_b ((hG.1.1 391 this).2)) (by omega) (by omega)) hF hFr hG hP hD hS (lv_sub hl [5, 3, 1, 0] rfl)
                    · replace hF := hF.trans (if_neg c_3223)
                      have tc_3241 : (x_1950).toInt ≠ 0 := fun q => c_3223 (Int32.toInt_inj.mp q)
                      have h_3242 : rg x_1950 1 1 := rg_ne c_3223 h_2616 0 rfl (by decide +kernel)
                      have uh_3242 := h_3242.1
                      have vh_3242 := h_3242.2
                      refine lv_aload_n hx hb dX12_either_83 rfl (lv_at hl 3 rfl) ?_
                      refine lv_bipush (v := 22) hx hb dX12_either_84 (by decide +kernel) ?_
                      refine lv_iconst (v := 0) hx hb dX12_either_86 (by decide +kernel) ?_
                      have hq1 := PBz_t hpbC
                      have hq2 := PBz_w hpbC (Or.inr (by omega))
                      refine pk_v (va_runV (As := [.int 22, .int 0]) (rest := []) ⟨hx, hb, hml, hown, hts⟩ (s_X12_emit l D t σ I_3030 J_2632 ri_3031 rj rq H.size tg hSH hG.1 this (22 : Int32) (0 : Int32) hL_this hK_this this_a hR_this_a hL_this_a hK_this_a hN_this_a hT_this_a (by omega) (by omega)) (cwV 2 hts (tw_V tw_905 tw_906 tw_907 tw_5 tw_908) rfl rfl rfl cv_yX12_emit_2 ⟨Nat.le_of_ble_eq_true rfl, Nat.le_of_ble_eq_true rfl⟩) ⟨pq_blind, pq_recv hK hP hL_this hK_this (by decide +kernel) rfl, pq_pre hK hN hP hD⟩ rfl rfl hl.1 rfl (lv_room (Nat.le_of_ble_eq_true rfl)) dX12_either_87 ⟨Nat.le_of_ble_eq_true rfl, Nat.le_of_ble_eq_true rfl⟩) hD hS hA (fun σ1 μ1 H locs hw_3244 hP hD hS => ?_)
                      obtain ⟨I_3245, ri_3246, hu_3247, hg_3248, hp_3250, hp_3251, hp_3252, hp_3253, hfn_3254, hfr_3255⟩ := hw_3244
                      obtain ⟨hu_3247a, hu_3247b⟩ := Prod.mk.inj hu_3247
                      rw [hu_3247a, hu_3247b] at hP hD
                      replace hF := hF.trans (bv_n hfn_3254)
                      replace hFr := fr_tr hFr hfr_3255
                      obtain ⟨v_3256, ev_3256, hv_3256⟩ := hp_3250
                      have tt_3257 : (I_3245 398 this).toInt = (I_3030 398 this).toInt + 1 := by rw [ev_3256, pq_us]; exact hv_3256
                      have tt_3258 : (I_3245 403 this).toInt = (I_3030 403 this).toInt := by rw [ev_3256, pq_uf _ _ _ (by decide +kernel)]
                      have hG := GM.tr hG hg_3248 (by decide +kernel)
                      have tt_3259 : (I_3245 396 this).toInt = (I_3030 396 this).toInt := by rw [hg_3248.2.1 396 (by decide +kernel) (by decide +kernel)]
                      have tt_3260 : (I_3245 401 this).toInt = (I_3030 401 this).toInt := by rw [hg_3248.2.1 401 (by decide +kernel) (by decide +kernel)]
                      have tt_3261 : (I_3245 402 this).toInt = (I_3030 402 this).toInt := by rw [hg_3248.2.1 402 (by decide +kernel) (by decide +kernel)]
                      have tt_3262 : (I_3245 391 this).toInt = (I_3030 391 this).toInt := by rw [hg_3248.2.1 391 (by decide +kernel) (by decide +kernel)]
                      have tt_3263 : (I_3245 393 this).toInt = (I_3030 393 this).toInt := by rw [hg_3248.2.1 393 (by decide +kernel) (by decide +kernel)]
                      have tt_3264 : (I_3245 397 this).toInt = (I_3030 397 this).toInt := by rw [hg_3248.2.1 397 (by decide +kernel) (by decide +kernel)]
                      have hpbD : PBz (I_3245 396 this).toInt (I_3245 398 this).toInt (I_3245 402 this).toInt (I_3245 391 this).toInt (I_3245 393 this).toInt (ri_3246 this_a) bb f0 fr va (tb + 1) nn K := by have zc0 : (0 : Int32).toInt = 0 := rfl; have zc1 : (1 : Int32).toInt = 1 := rfl; have zo : (22 : Int32).toInt = 22 := rfl; exact PBz_em (x := 22) (by rw [show K + 1 = (K + (x_1950).toInt) from by omega]; exact hpbC) (by omega) (fun j hj => hp_3251 j (by omega)) (by rw [show (I_3030 396 this).toInt + 250 + 2 * (I_3030 398 this).toInt = (I_3030 396 this).toInt + 250 + 2 * (I_3030 398 this).toInt from by omega]; exact hp_3252) (by omega) (by omega) (by omega) (by omega) (by omega) (by omega)
                      refine lv_iload hx hb dX12_either_90 (lv_at hl 0 rfl) ?_
                      refine lv_istore_n (lv' := [(2, .int 0), (5, .int 0), (1, .int x_3057), (4, .int x_2629), (0, .ref this), (3, .int x_1951)]) hx hb dX12_either_92 rfl hl (by decide +kernel) rfl (fun ls hl => ?_)
                      refine lv_iload_n hx hb dX12_either_93 rfl (lv_at hl 2 rfl) ?_
                      refine lv_if_ne (tgt := 102) hx hb dX12_either_94 (by decide +kernel) (fun c_3265 => ?_) (fun c_3265 => ?_)
                      · have f_3270 := (hr_3061.resolve_right (fun q => c_3265 q.1)).2
                        have tc_3271 : (x_3057).toInt ≠ 0 := fun q => c_3265 (Int32.toInt_inj.mp q)
                        exact (rg_empty (rg_ne c_3265 h_3222 0 rfl (lo := 1) (hi := (-1)) (by decide +kernel)) (by decide +kernel)).elim
                      · have f_3272 := (hr_3061.resolve_left (fun q => absurd (q.1.symm.trans c_3265) (by decide +kernel))).2
                        have tc_3273 : (x_3057).toInt = 0 := congrArg Int32.toInt c_3265
                        refine lv_iload hx hb dX12_either_97 (lv_at hl 1 rfl) ?_
                        refine lv_if_eq (tgt := 106) hx hb dX12_either_99 (by decide +kernel) (fun c_3274 => ?_) (fun c_3274 => absurd c_3274 (by decide +kernel))
                        refine lv_iconst (v := 0) hx hb dX12_either_106 (by decide +kernel) ?_
                        refine lv_istore_n (lv' := [(3, .int 0), (2, .int 0), (5, .int 0), (1, .int x_3057), (4, .int x_2629), (0, .ref this)]) hx hb dX12_either_107 rfl hl (by decide +kernel) rfl (fun ls hl => ?_)
                        refine lv_iload_n hx hb dX12_either_108 rfl (lv_at hl 0 rfl) ?_
                        refine lv_if_eq (tgt := 116) hx hb dX12_either_109 (by decide +kernel) (fun c_3275 => ?_) (fun c_3275 => absurd c_3275 (by decide +kernel))
                        refine lv_goto (tgt := 6) hx hb dX12_either_116 (by decide +kernel) ?_
                        exact ih_2609 x_3057 (0 : Int32) (0 : Int32) I_3245 J_2632 ri_3246 _ _ _ (rg_w h_3222 (by decide +kernel)) (rg_w (rg_k (0 : Int32) 0 rfl) (by decide +kernel)) (rg_w (rg_k (0 : Int32) 0 rfl) (by decide +kernel)) (by have zc0 : (0 : Int32).toInt = 0 := rfl; have zc1 : (1 : Int32).toInt = 1 := rfl; exact ⟨fun q => absurd q (by decide +kernel), fun _ => PBz_cg hpbD (by omega) (by omega) (by omega) (by omega) (by omega) rfl⟩) (tm_lec htmA (by omega) (by omega)) (by have zc0 : (0 : Int32).toInt = 0 := rfl; have zc1 : (1 : Int32).toInt = 1 := rfl; exact tm_ms2' hm_2606 ⟨tm_lec (hp_2637.resolve_left (fun q => q (by omega))).2 (by omega) (by omega), Or.inr (by omega)⟩ (tm_b ((hG.1.1 391 this).2)) (by omega) (by omega)) hF hFr hG hP hD hS (lv_sub hl [5, 3, 1, 0] rfl)
                · replace hF := hF.trans (if_pos c_3173)
                  have tc_3276 : (x_3172).toInt = 0 := congrArg Int32.toInt c_3173
                  have h_3277 : rg x_3172 0 0 := rg_and (rg_full _) (rg_of_eq c_3173 (rg_k (0 : Int32) 0 rfl)) (by decide +kernel)
                  have uh_3277 := h_3277.1
                  have vh_3277 := h_3277.2
                  refine lv_iconst (v := 1) hx hb dX12_either_68 (by decide +kernel) ?_
                  refine lv_goto (tgt := 73) hx hb dX12_either_69 (by decide +kernel) ?_
                  refine lv_istore (lv' := [(5, .int 1), (1, .int x_3057), (4, .int x_2629), (0, .ref this), (2, .int x_1950), (3, .int x_1951)]) hx hb dX12_either_73 hl (by decide +kernel) rfl (fun ls hl => ?_)
                  refine lv_iload_n hx hb dX12_either_75 rfl (lv_at hl 1 rfl) ?_
                  refine lv_if_ne (tgt := 93) hx hb dX12_either_76 (by decide +kernel) (fun c_3278 => ?_) (fun c_3278 => ?_)
                  · replace hF := hF.trans (if_neg c_3278)
                    have f_3285 := (hr_3061.resolve_right (fun q => c_3278 q.1)).2
                    have tc_3286 : (x_3057).toInt ≠ 0 := fun q => c_3278 (Int32.toInt_inj.mp q)
                    have h_3287 : rg x_3057 1 1 := rg_ne c_3278 h_3064 0 rfl (by decide +kernel)
                    have uh_3287 := h_3287.1
                    have vh_3287 := h_3287.2
                    refine lv_iload_n hx hb dX12_either_93 rfl (lv_at hl 1 rfl) ?_
                    refine lv_if_ne (tgt := 102) hx hb dX12_either_94 (by decide +kernel) (fun c_3288 => ?_) (fun c_3288 => ?_)
                    · have f_3293 := (hr_3061.resolve_right (fun q => c_3288 q.1)).2
                      have tc_3294 : (x_3057).toInt ≠ 0 := fun q => c_3288 (Int32.toInt_inj.mp q)
                      refine lv_iconst (v := 1) hx hb dX12_either_102 (by decide +kernel) ?_
                      refine lv_goto (tgt := 107) hx hb dX12_either_103 (by decide +kernel) ?_
                      refine lv_istore_n (lv' := [(3, .int 1), (5, .int 1), (1, .int x_3057), (4, .int x_2629), (0, .ref this), (2, .int x_1950)]) hx hb dX12_either_107 rfl hl (by decide +kernel) rfl (fun ls hl => ?_)
                      refine lv_iload_n hx hb dX12_either_108 rfl (lv_at hl 0 rfl) ?_
                      refine lv_if_eq (tgt := 116) hx hb dX12_either_109 (by decide +kernel) (fun c_3295 => absurd c_3295 (by decide +kernel)) (fun c_3295 => ?_)
                      refine lv_aload_n hx hb dX12_either_112 rfl (lv_at hl 4 rfl) ?_
                      obtain ⟨w_3296, hR_w_3296, hL_w_3296, hK_w_3296, hN_w_3296, hT_w_3296⟩ := sh_a hSH 387 (ci := 12) (kd := 13) (len := 300) rfl (by decide +kernel) hL_this hK_this
                      have hO_w_3296 : w_3296 = vrow σ 387 this := vo_k (c := 12) hO_this hR_w_3296
                      refine pk_v (va_runV (As := []) (rest := []) ⟨hx, hb, hml, hown, hts⟩ (s_X12_nextToken_x l D t σ I_3030 J_2632 ri_3031 rj rq H.size tg hSH hG.1 this hL_this hK_this w_3296 hR_w_3296 hL_w_3296 hK_w_3296 hN_w_3296 hT_w_3296) (cwV 0 hts (tw_V tw_832 tw_833 tw_834 tw_5 tw_835) rfl rfl rfl cv_yX12_nextToken_0 ⟨Nat.le_of_ble_eq_true rfl, Nat.le_of_ble_eq_true rfl⟩) ⟨pq_blind, pq_recv hK hP hL_this hK_this (by decide +kernel) rfl, pq_pre hK hN hP hD⟩ rfl rfl hl.1 rfl (lv_room (Nat.le_of_ble_eq_true rfl)) dX12_either_113 ⟨Nat.le_of_ble_eq_true rfl, Nat.le_of_ble_eq_true rfl⟩) hD hS hA (fun σ1 μ1 H locs hw_3298 hP hD hS => ?_)
                      obtain ⟨I_3299, J_3300, hu_3301, hg_3302, hp_3304, hp_3305, hp_3306, hfn_3307, hfr_3308⟩ := hw_3298
                      obtain ⟨hu_3301a, hu_3301b⟩ := Prod.mk.inj hu_3301
                      rw [hu_3301a, hu_3301b] at hP hD
                      replace hF := hF.trans (bv_n hfn_3307)
                      replace hFr := fr_tr hFr hfr_3308
                      have tt_3309 := hp_3304
                      have tt_3310 := hp_3305
                      have tt_3311 := hp_3306
                      have tt_3312 : (I_3299 391 this).toInt ≤ 300 := by have z := hg_3302.1.1 391 this; exact z.2
                      have hG := GM.tr hG hg_3302 (by decide +kernel)
                      have tt_3313 : (I_3299 396 this).toInt = (I_3030 396 this).toInt := by rw [hg_3302.2.1 396 (by decide +kernel) (by decide +kernel)]
                      have tt_3314 : (I_3299 398 this).toInt = (I_3030 398 this).toInt := by rw [hg_3302.2.1 398 (by decide +kernel) (by decide +kernel)]
                      have tt_3315 : (I_3299 401 this).toInt = (I_3030 401 this).toInt := by rw [hg_3302.2.1 401 (by decide +kernel) (by decide +kernel)]
                      have tt_3316 : (I_3299 402 this).toInt = (I_3030 402 this).toInt := by rw [hg_3302.2.1 402 (by decide +kernel) (by decide +kernel)]
                      have tt_3317 : (I_3299 397 this).toInt = (I_3030 397 this).toInt := by rw [hg_3302.2.1 397 (by decide +kernel) (by decide +kernel)]
                      refine lv_goto (tgt := 6) hx hb dX12_either_116 (by decide +kernel) ?_
                      exact ih_2609 x_3057 x_1950 (1 : Int32) I_3299 J_3300 ri_3031 _ _ _ (rg_w h_3287 (by decide +kernel)) (rg_w h_2616 (by decide +kernel)) (rg_w (rg_k (1 : Int32) 1 rfl) (by decide +kernel)) (by have zc0 : (0 : Int32).toInt = 0 := rfl; have zc1 : (1 : Int32).toInt = 1 := rfl; exact ⟨fun _ => by rw [show tb + (x_3057).toInt + (x_1950).toInt = (tb + (x_1950).toInt + 1) from by omega, show K + (x_3057).toInt + (x_1950).toInt = (K + (x_1950).toInt) + 1 from by omega]; exact PBz_tok hpbC (by omega) (by omega) (by omega) (by omega) (by omega) (by omega) (by omega) rfl, fun q => absurd q (by decide +kernel)⟩) (Int.le_of_lt (Int.lt_of_lt_of_le (tm_lt (by omega) (by omega) (by omega)) htmA)) (by have zc0 : (0 : Int32).toInt = 0 := rfl; have zc1 : (1 : Int32).toInt = 1 := rfl; exact tm_ms2' hm_2606 ⟨Int.le_of_lt (Int.lt_of_lt_of_le (tm_lt (s := (I_3030 391 this).toInt) (k := (I_3030 393 this).toInt) (by omega) (by omega) (by omega)) (tm_lec (hp_2637.resolve_left (fun q => q (by omega))).2 (by omega) (by omega))), Or.inl (Int.lt_of_lt_of_le (tm_lt (s := (I_3030 391 this).toInt) (k := (I_3030 393 this).toInt) (by omega) (by omega) (by omega)) (tm_lec (hp_2637.resolve_left (fun q => q (by omega))).2 (by omega) (by omega)))⟩ (tm_b ((hG.1.1 391 this).2)) (by omega) (by omega)) hF hFr hG hP hD hS (lv_sub hl [4, 2, 5, 0] rfl)
                    · have f_3318 := (hr_3061.resolve_left (fun q => absurd (q.1.symm.trans c_3288) (by decide +kernel))).2
                      have tc_3319 : (x_3057).toInt = 0 := congrArg Int32.toInt c_3288
                      exact (rg_empty (rg_and h_3287 (rg_of_eq c_3288 (rg_k (0 : Int32) 0 rfl)) (lo := 1) (hi := 0) (by decide +kernel)) (by decide +kernel)).elim
                  · replace hF := hF.trans (if_pos c_3278)
                    have f_3320 := (hr_3061.resolve_left (fun q => absurd (q.1.symm.trans c_3278) (by decide +kernel))).2
                    have tc_3321 : (x_3057).toInt = 0 := congrArg Int32.toInt c_3278
                    have h_3322 : rg x_3057 0 0 := rg_and h_3064 (rg_of_eq c_3278 (rg_k (0 : Int32) 0 rfl)) (by decide +kernel)
                    have uh_3322 := h_3322.1
                    have vh_3322 := h_3322.2
                    refine lv_iload_n hx hb dX12_either_79 rfl (lv_at hl 4 rfl) ?_
                    refine lv_if_eq (tgt := 90) hx hb dX12_either_80 (by decide +kernel) (fun c_3323 => ?_) (fun c_3323 => ?_)
                    · replace hF := hF.trans (if_pos c_3323)
                      have tc_3328 : (x_1950).toInt = 0 := congrArg Int32.toInt c_3323
                      have h_3329 : rg x_1950 0 0 := rg_and h_2616 (rg_of_eq c_3323 (rg_k (0 : Int32) 0 rfl)) (by decide +kernel)
                      have uh_3329 := h_3329.1
                      have vh_3329 := h_3329.2
                      have hpbD : PBz (I_3030 396 this).toInt (I_3030 398 this).toInt (I_3030 402 this).toInt (I_3030 391 this).toInt (I_3030 393 this).toInt (ri_3031 this_a) bb f0 fr va (tb + 1) nn K := by have q := hpbC; rw [show (tb + (x_1950).toInt + 1) = tb + 1 from by omega, show (K + (x_1950).toInt) = K from by omega] at q; exact q
                      refine lv_iload hx hb dX12_either_90 (lv_at hl 0 rfl) ?_
                      refine lv_istore_n (lv' := [(2, .int 1), (5, .int 1), (1, .int x_3057), (4, .int x_2629), (0, .ref this), (3, .int x_1951)]) hx hb dX12_either_92 rfl hl (by decide +kernel) rfl (fun ls hl => ?_)
                      refine lv_iload_n hx hb dX12_either_93 rfl (lv_at hl 2 rfl) ?_
                      refine lv_if_ne (tgt := 102) hx hb dX12_either_94 (by decide +kernel) (fun c_3330 => ?_) (fun c_3330 => ?_)
                      · have f_3335 := (hr_3061.resolve_right (fun q => c_3330 q.1)).2
                        have tc_3336 : (x_3057).toInt ≠ 0 := fun q => c_3330 (Int32.toInt_inj.mp q)
                        exact (rg_empty (rg_ne c_3330 h_3322 0 rfl (lo := 1) (hi := (-1)) (by decide +kernel)) (by decide +kernel)).elim
                      · have f_3337 := (hr_3061.resolve_left (fun q => absurd (q.1.symm.trans c_3330) (by decide +kernel))).2
                        have tc_3338 : (x_3057).toInt = 0 := congrArg Int32.toInt c_3330
                        refine lv_iload hx hb dX12_either_97 (lv_at hl 1 rfl) ?_
                        refine lv_if_eq (tgt := 106) hx hb dX12_either_99 (by decide +kernel) (fun c_3339 => absurd c_3339 (by decide +kernel)) (fun c_3339 => ?_)
                        refine lv_iconst (v := 1) hx hb dX12_either_102 (by decide +kernel) ?_
                        refine lv_goto (tgt := 107) hx hb dX12_either_103 (by decide +kernel) ?_
                        refine lv_istore_n (lv' := [(3, .int 1), (2, .int 1), (5, .int 1), (1, .int x_3057), (4, .int x_2629), (0, .ref this)]) hx hb dX12_either_107 rfl hl (by decide +kernel) rfl (fun ls hl => ?_)
                        refine lv_iload_n hx hb dX12_either_108 rfl (lv_at hl 0 rfl) ?_
                        refine lv_if_eq (tgt := 116) hx hb dX12_either_109 (by decide +kernel) (fun c_3340 => absurd c_3340 (by decide +kernel)) (fun c_3340 => ?_)
                        refine lv_aload_n hx hb dX12_either_112 rfl (lv_at hl 5 rfl) ?_
                        obtain ⟨w_3341, hR_w_3341, hL_w_3341, hK_w_3341, hN_w_3341, hT_w_3341⟩ := sh_a hSH 387 (ci := 12) (kd := 13) (len := 300) rfl (by decide +kernel) hL_this hK_this
                        have hO_w_3341 : w_3341 = vrow σ 387 this := vo_k (c := 12) hO_this hR_w_3341
                        refine pk_v (va_runV (As := []) (rest := []) ⟨hx, hb, hml, hown, hts⟩ (s_X12_nextToken_x l D t σ I_3030 J_2632 ri_3031 rj rq H.size tg hSH hG.1 this hL_this hK_this w_3341 hR_w_3341 hL_w_3341 hK_w_3341 hN_w_3341 hT_w_3341) (cwV 0 hts (tw_V tw_832 tw_833 tw_834 tw_5 tw_835) rfl rfl rfl cv_yX12_nextToken_0 ⟨Nat.le_of_ble_eq_true rfl, Nat.le_of_ble_eq_true rfl⟩) ⟨pq_blind, pq_recv hK hP hL_this hK_this (by decide +kernel) rfl, pq_pre hK hN hP hD⟩ rfl rfl hl.1 rfl (lv_room (Nat.le_of_ble_eq_true rfl)) dX12_either_113 ⟨Nat.le_of_ble_eq_true rfl, Nat.le_of_ble_eq_true rfl⟩) hD hS hA (fun σ1 μ1 H locs hw_3343 hP hD hS => ?_)
                        obtain ⟨I_3344, J_3345, hu_3346, hg_3347, hp_3349, hp_3350, hp_3351, hfn_3352, hfr_3353⟩ := hw_3343
                        obtain ⟨hu_3346a, hu_3346b⟩ := Prod.mk.inj hu_3346
                        rw [hu_3346a, hu_3346b] at hP hD
                        replace hF := hF.trans (bv_n hfn_3352)
                        replace hFr := fr_tr hFr hfr_3353
                        have tt_3354 := hp_3349
                        have tt_3355 := hp_3350
                        have tt_3356 := hp_3351
                        have tt_3357 : (I_3344 391 this).toInt ≤ 300 := by have z := hg_3347.1.1 391 this; exact z.2
                        have hG := GM.tr hG hg_3347 (by decide +kernel)
                        have tt_3358 : (I_3344 396 this).toInt = (I_3030 396 this).toInt := by rw [hg_3347.2.1 396 (by decide +kernel) (by decide +kernel)]
                        have tt_3359 : (I_3344 398 this).toInt = (I_3030 398 this).toInt := by rw [hg_3347.2.1 398 (by decide +kernel) (by decide +kernel)]
                        have tt_3360 : (I_3344 401 this).toInt = (I_3030 401 this).toInt := by rw [hg_3347.2.1 401 (by decide +kernel) (by decide +kernel)]
                        have tt_3361 : (I_3344 402 this).toInt = (I_3030 402 this).toInt := by rw [hg_3347.2.1 402 (by decide +kernel) (by decide +kernel)]
                        have tt_3362 : (I_3344 397 this).toInt = (I_3030 397 this).toInt := by rw [hg_3347.2.1 397 (by decide +kernel) (by decide +kernel)]
                        refine lv_goto (tgt := 6) hx hb dX12_either_116 (by decide +kernel) ?_
                        exact ih_2609 x_3057 (1 : Int32) (1 : Int32) I_3344 J_3345 ri_3031 _ _ _ (rg_w h_3322 (by decide +kernel)) (rg_w (rg_k (1 : Int32) 1 rfl) (by decide +kernel)) (rg_w (rg_k (1 : Int32) 1 rfl) (by decide +kernel)) (by have zc0 : (0 : Int32).toInt = 0 := rfl; have zc1 : (1 : Int32).toInt = 1 := rfl; exact ⟨fun _ => by rw [show tb + (x_3057).toInt + (1 : Int32).toInt = (tb + 1) from by omega, show K + (x_3057).toInt + (1 : Int32).toInt = K + 1 from by omega]; exact PBz_tok hpbD (by omega) (by omega) (by omega) (by omega) (by omega) (by omega) (by omega) rfl, fun q => absurd q (by decide +kernel)⟩) (Int.le_of_lt (Int.lt_of_lt_of_le (tm_lt (by omega) (by omega) (by omega)) htmA)) (by have zc0 : (0 : Int32).toInt = 0 := rfl; have zc1 : (1 : Int32).toInt = 1 := rfl; exact tm_ms2' hm_2606 ⟨Int.le_of_lt (Int.lt_of_lt_of_le (tm_lt (s := (I_3030 391 this).toInt) (k := (I_3030 393 this).toInt) (by omega) (by omega) (by omega)) (tm_lec (hp_2637.resolve_left (fun q => q (by omega))).2 (by omega) (by omega))), Or.inl (Int.lt_of_lt_of_le (tm_lt (s := (I_3030 391 this).toInt) (k := (I_3030 393 this).toInt) (by omega) (by omega) (by omega)) (tm_lec (hp_2637.resolve_left (fun q => q (by omega))).2 (by omega) (by omega)))⟩ (tm_b ((hG.1.1 391 this).2)) (by omega) (by omega)) hF hFr hG hP hD hS (lv_sub hl [5, 3, 1, 0] rfl)
                    · replace hF := hF.trans (if_neg c_3323)
                      have tc_3363 : (x_1950).toInt ≠ 0 := fun q => c_3323 (Int32.toInt_inj.mp q)
                      have h_3364 : rg x_1950 1 1 := rg_ne c_3323 h_2616 0 rfl (by decide +kernel)
                      have uh_3364 := h_3364.1
                      have vh_3364 := h_3364.2
                      refine lv_aload_n hx hb dX12_either_83 rfl (lv_at hl 3 rfl) ?_
                      refine lv_bipush (v := 22) hx hb dX12_either_84 (by decide +kernel) ?_
                      refine lv_iconst (v := 0) hx hb dX12_either_86 (by decide +kernel) ?_
                      have hq1 := PBz_t hpbC
                      have hq2 := PBz_w hpbC (Or.inr (by omega))
                      refine pk_v (va_runV (As := [.int 22, .int 0]) (rest := []) ⟨hx, hb, hml, hown, hts⟩ (s_X12_emit l D t σ I_3030 J_2632 ri_3031 rj rq H.size tg hSH hG.1 this (22 : Int32) (0 : Int32) hL_this hK_this this_a hR_this_a hL_this_a hK_this_a hN_this_a hT_this_a (by omega) (by omega)) (cwV 2 hts (tw_V tw_905 tw_906 tw_907 tw_5 tw_908) rfl rfl rfl cv_yX12_emit_2 ⟨Nat.le_of_ble_eq_true rfl, Nat.le_of_ble_eq_true rfl⟩) ⟨pq_blind, pq_recv hK hP hL_this hK_this (by decide +kernel) rfl, pq_pre hK hN hP hD⟩ rfl rfl hl.1 rfl (lv_room (Nat.le_of_ble_eq_true rfl)) dX12_either_87 ⟨Nat.le_of_ble_eq_true rfl, Nat.le_of_ble_eq_true rfl⟩) hD hS hA (fun σ1 μ1 H locs hw_3366 hP hD hS => ?_)
                      obtain ⟨I_3367, ri_3368, hu_3369, hg_3370, hp_3372, hp_3373, hp_3374, hp_3375, hfn_3376, hfr_3377⟩ := hw_3366
                      obtain ⟨hu_3369a, hu_3369b⟩ := Prod.mk.inj hu_3369
                      rw [hu_3369a, hu_3369b] at hP hD
                      replace hF := hF.trans (bv_n hfn_3376)
                      replace hFr := fr_tr hFr hfr_3377
                      obtain ⟨v_3378, ev_3378, hv_3378⟩ := hp_3372
                      have tt_3379 : (I_3367 398 this).toInt = (I_3030 398 this).toInt + 1 := by rw [ev_3378, pq_us]; exact hv_3378
                      have tt_3380 : (I_3367 403 this).toInt = (I_3030 403 this).toInt := by rw [ev_3378, pq_uf _ _ _ (by decide +kernel)]
                      have hG := GM.tr hG hg_3370 (by decide +kernel)
                      have tt_3381 : (I_3367 396 this).toInt = (I_3030 396 this).toInt := by rw [hg_3370.2.1 396 (by decide +kernel) (by decide +kernel)]
                      have tt_3382 : (I_3367 401 this).toInt = (I_3030 401 this).toInt := by rw [hg_3370.2.1 401 (by decide +kernel) (by decide +kernel)]
                      have tt_3383 : (I_3367 402 this).toInt = (I_3030 402 this).toInt := by rw [hg_3370.2.1 402 (by decide +kernel) (by decide +kernel)]
                      have tt_3384 : (I_3367 391 this).toInt = (I_3030 391 this).toInt := by rw [hg_3370.2.1 391 (by decide +kernel) (by decide +kernel)]
                      have tt_3385 : (I_3367 393 this).toInt = (I_3030 393 this).toInt := by rw [hg_3370.2.1 393 (by decide +kernel) (by decide +kernel)]
                      have tt_3386 : (I_3367 397 this).toInt = (I_3030 397 this).toInt := by rw [hg_3370.2.1 397 (by decide +kernel) (by decide +kernel)]
                      have hpbD : PBz (I_3367 396 this).toInt (I_3367 398 this).toInt (I_3367 402 this).toInt (I_3367 391 this).toInt (I_3367 393 this).toInt (ri_3368 this_a) bb f0 fr va (tb + 1) nn K := by have zc0 : (0 : Int32).toInt = 0 := rfl; have zc1 : (1 : Int32).toInt = 1 := rfl; have zo : (22 : Int32).toInt = 22 := rfl; exact PBz_em (x := 22) (by rw [show K + 1 = (K + (x_1950).toInt) from by omega]; exact hpbC) (by omega) (fun j hj => hp_3373 j (by omega)) (by rw [show (I_3030 396 this).toInt + 250 + 2 * (I_3030 398 this).toInt = (I_3030 396 this).toInt + 250 + 2 * (I_3030 398 this).toInt from by omega]; exact hp_3374) (by omega) (by omega) (by omega) (by omega) (by omega) (by omega)
                      refine lv_iload hx hb dX12_either_90 (lv_at hl 0 rfl) ?_
                      refine lv_istore_n (lv' := [(2, .int 1), (5, .int 1), (1, .int x_3057), (4, .int x_2629), (0, .ref this), (3, .int x_1951)]) hx hb dX12_either_92 rfl hl (by decide +kernel) rfl (fun ls hl => ?_)
                      refine lv_iload_n hx hb dX12_either_93 rfl (lv_at hl 2 rfl) ?_
                      refine lv_if_ne (tgt := 102) hx hb dX12_either_94 (by decide +kernel) (fun c_3387 => ?_) (fun c_3387 => ?_)
                      · have f_3392 := (hr_3061.resolve_right (fun q => c_3387 q.1)).2
                        have tc_3393 : (x_3057).toInt ≠ 0 := fun q => c_3387 (Int32.toInt_inj.mp q)
                        exact (rg_empty (rg_ne c_3387 h_3322 0 rfl (lo := 1) (hi := (-1)) (by decide +kernel)) (by decide +kernel)).elim
                      · have f_3394 := (hr_3061.resolve_left (fun q => absurd (q.1.symm.trans c_3387) (by decide +kernel))).2
                        have tc_3395 : (x_3057).toInt = 0 := congrArg Int32.toInt c_3387
                        refine lv_iload hx hb dX12_either_97 (lv_at hl 1 rfl) ?_
                        refine lv_if_eq (tgt := 106) hx hb dX12_either_99 (by decide +kernel) (fun c_3396 => absurd c_3396 (by decide +kernel)) (fun c_3396 => ?_)
                        refine lv_iconst (v := 1) hx hb dX12_either_102 (by decide +kernel) ?_
                        refine lv_goto (tgt := 107) hx hb dX12_either_103 (by decide +kernel) ?_
                        refine lv_istore_n (lv' := [(3, .int 1), (2, .int 1), (5, .int 1), (1, .int x_3057), (4, .int x_2629), (0, .ref this)]) hx hb dX12_either_107 rfl hl (by decide +kernel) rfl (fun ls hl => ?_)
                        refine lv_iload_n hx hb dX12_either_108 rfl (lv_at hl 0 rfl) ?_
                        refine lv_if_eq (tgt := 116) hx hb dX12_either_109 (by decide +kernel) (fun c_3397 => absurd c_3397 (by decide +kernel)) (fun c_3397 => ?_)
                        refine lv_aload_n hx hb dX12_either_112 rfl (lv_at hl 5 rfl) ?_
                        obtain ⟨w_3398, hR_w_3398, hL_w_3398, hK_w_3398, hN_w_3398, hT_w_3398⟩ := sh_a hSH 387 (ci := 12) (kd := 13) (len := 300) rfl (by decide +kernel) hL_this hK_this
                        have hO_w_3398 : w_3398 = vrow σ 387 this := vo_k (c := 12) hO_this hR_w_3398
                        refine pk_v (va_runV (As := []) (rest := []) ⟨hx, hb, hml, hown, hts⟩ (s_X12_nextToken_x l D t σ I_3367 J_2632 ri_3368 rj rq H.size tg hSH hG.1 this hL_this hK_this w_3398 hR_w_3398 hL_w_3398 hK_w_3398 hN_w_3398 hT_w_3398) (cwV 0 hts (tw_V tw_832 tw_833 tw_834 tw_5 tw_835) rfl rfl rfl cv_yX12_nextToken_0 ⟨Nat.le_of_ble_eq_true rfl, Nat.le_of_ble_eq_true rfl⟩) ⟨pq_blind, pq_recv hK hP hL_this hK_this (by decide +kernel) rfl, pq_pre hK hN hP hD⟩ rfl rfl hl.1 rfl (lv_room (Nat.le_of_ble_eq_true rfl)) dX12_either_113 ⟨Nat.le_of_ble_eq_true rfl, Nat.le_of_ble_eq_true rfl⟩) hD hS hA (fun σ1 μ1 H locs hw_3400 hP hD hS => ?_)
                        obtain ⟨I_3401, J_3402, hu_3403, hg_3404, hp_3406, hp_3407, hp_3408, hfn_3409, hfr_3410⟩ := hw_3400
                        obtain ⟨hu_3403a, hu_3403b⟩ := Prod.mk.inj hu_3403
                        rw [hu_3403a, hu_3403b] at hP hD
                        replace hF := hF.trans (bv_n hfn_3409)
                        replace hFr := fr_tr hFr hfr_3410
                        have tt_3411 := hp_3406
                        have tt_3412 := hp_3407
                        have tt_3413 := hp_3408
                        have tt_3414 : (I_3401 391 this).toInt ≤ 300 := by have z := hg_3404.1.1 391 this; exact z.2
                        have hG := GM.tr hG hg_3404 (by decide +kernel)
                        have tt_3415 : (I_3401 396 this).toInt = (I_3367 396 this).toInt := by rw [hg_3404.2.1 396 (by decide +kernel) (by decide +kernel)]
                        have tt_3416 : (I_3401 398 this).toInt = (I_3367 398 this).toInt := by rw [hg_3404.2.1 398 (by decide +kernel) (by decide +kernel)]
                        have tt_3417 : (I_3401 401 this).toInt = (I_3367 401 this).toInt := by rw [hg_3404.2.1 401 (by decide +kernel) (by decide +kernel)]
                        have tt_3418 : (I_3401 402 this).toInt = (I_3367 402 this).toInt := by rw [hg_3404.2.1 402 (by decide +kernel) (by decide +kernel)]
                        have tt_3419 : (I_3401 397 this).toInt = (I_3367 397 this).toInt := by rw [hg_3404.2.1 397 (by decide +kernel) (by decide +kernel)]
                        refine lv_goto (tgt := 6) hx hb dX12_either_116 (by decide +kernel) ?_
                        exact ih_2609 x_3057 (1 : Int32) (1 : Int32) I_3401 J_3402 ri_3368 _ _ _ (rg_w h_3322 (by decide +kernel)) (rg_w (rg_k (1 : Int32) 1 rfl) (by decide +kernel)) (rg_w (rg_k (1 : Int32) 1 rfl) (by decide +kernel)) (by have zc0 : (0 : Int32).toInt = 0 := rfl; have zc1 : (1 : Int32).toInt = 1 := rfl; exact ⟨fun _ => by rw [show tb + (x_3057).toInt + (1 : Int32).toInt = (tb + 1) from by omega, show K + (x_3057).toInt + (1 : Int32).toInt = K + 1 from by omega]; exact PBz_tok hpbD (by omega) (by omega) (by omega) (by omega) (by omega) (by omega) (by omega) rfl, fun q => absurd q (by decide +kernel)⟩) (Int.le_of_lt (Int.lt_of_lt_of_le (tm_lt (by omega) (by omega) (by omega)) htmA)) (by have zc0 : (0 : Int32).toInt = 0 := rfl; have zc1 : (1 : Int32).toInt = 1 := rfl; exact tm_ms2' hm_2606 ⟨Int.le_of_lt (Int.lt_of_lt_of_le (tm_lt (s := (I_3367 391 this).toInt) (k := (I_3367 393 this).toInt) (by omega) (by omega) (by omega)) (tm_lec (hp_2637.resolve_left (fun q => q (by omega))).2 (by omega) (by omega))), Or.inl (Int.lt_of_lt_of_le (tm_lt (s := (I_3367 391 this).toInt) (k := (I_3367 393 this).toInt) (by omega) (by omega) (by omega)) (tm_lec (hp_2637.resolve_left (fun q => q (by omega))).2 (by omega) (by omega)))⟩ (tm_b ((hG.1.1 391 this).2)) (by omega) (by omega)) hF hFr hG hP hD hS (lv_sub hl [5, 3, 1, 0] rfl)
          · replace hF := hF.trans (if_neg c_2642)
            have tc_3420 : (x_2629).toInt ≠ 0 := fun q => c_2642 (Int32.toInt_inj.mp q)
            have h_3421 : rg x_2629 1 3 := rg_ne c_2642 hr_2636 0 rfl (by decide +kernel)
            have uh_3421 := h_3421.1
            have vh_3421 := h_3421.2
            refine lv_iload hx hb dX12_either_21 (lv_at hl 0 rfl) ?_
            subst hQ
            exact W.iret (v := x_2629) hx hb hr (fun t1 ht hW => ⟨⟨x_2629, (σ, I_2631, J_2632, ri_2633, rj, rq), rfl, ⟨I_2631, J_2632, ri_2633, rfl, hG, (Or.inl (by omega)), (hF0.symm.trans hF), hFr, (rg_w h_3421 (by decide +kernel))⟩, by rw [ht]; exact hP, va_K.moved hW.alike hK, hD⟩, hS.F ht⟩) hS.2.2 dX12_either_23
    replace hF := hF.trans (ap_n (vI_e (f := 391) hO_this (by decide +kernel)))
    replace hF := hF.trans (ap_n (vI_e (f := 393) hO_this (by decide +kernel)))
    exact L_2608 _ (0 : Int32) (0 : Int32) (1 : Int32) I J ri _ _ _ (rg_w (rg_k (0 : Int32) 0 rfl) (by decide +kernel)) (rg_w (rg_k (0 : Int32) 0 rfl) (by decide +kernel)) (rg_w (rg_k (1 : Int32) 1 rfl) (by decide +kernel)) (by have zc0 : (0 : Int32).toInt = 0 := rfl; have zc1 : (1 : Int32).toInt = 1 := rfl; exact ⟨fun _ => by rw [show tb + (0 : Int32).toInt + (0 : Int32).toInt = tb from by omega, show K + (0 : Int32).toInt + (0 : Int32).toInt = K from by omega]; exact hpb, fun q => absurd q (by decide +kernel)⟩) (Int.le_refl _) (Nat.lt_succ_self _) hF hFr hG hP hD hS (lv_sub hl [3, 2, 1, 0] rfl)
  exact go _ _ _ hP hD hS hl
set_option maxRecDepth 100000 in
def g_X12_w3_d (a0 : Int32) (a1 : Int32) (a2 : Int32) : Int64 := (ap1 (a0.toInt64) fun (x_1 : Int64) => (ap1 (x_1 <<< ((8 : Int32).toInt64 &&& 63)) fun (x_2 : Int64) => (ap1 (a1.toInt64) fun (x_3 : Int64) => (ap1 (x_2 ||| x_3) fun (x_4 : Int64) => (ap1 (x_4 <<< ((8 : Int32).toInt64 &&& 63)) fun (x_5 : Int64) => (ap1 (a2.toInt64) fun (x_6 : Int64) => (ap1 (x_5 ||| x_6) fun (x_7 : Int64) => x_7)))))))
set_option maxRecDepth 100000 in
theorem g_X12_w3_d_e {a0 : Int32} {a1 : Int32} {a2 : Int32} : g_X12_w3_d a0 a1 a2 = (ap1 (a0.toInt64) fun (x_1 : Int64) => (ap1 (x_1 <<< ((8 : Int32).toInt64 &&& 63)) fun (x_2 : Int64) => (ap1 (a1.toInt64) fun (x_3 : Int64) => (ap1 (x_2 ||| x_3) fun (x_4 : Int64) => (ap1 (x_4 <<< ((8 : Int32).toInt64 &&& 63)) fun (x_5 : Int64) => (ap1 (a2.toInt64) fun (x_6 : Int64) => (ap1 (x_5 ||| x_6) fun (x_7 : Int64) => x_7))))))) := rfl
set_option maxHeartbeats 4000000 in
set_option maxRecDepth 100000 in
theorem s_X12_w3_d (l : Launch) (D : va_G) (t : pq_T) (σ : pq_S) (I : Nat → Nat → Int32) (J : Nat → Nat → Int64) (ri : Nat → Nat → Int32) (rj : Nat → Nat → Int64) (rq : Nat → Nat → Option Nat) (sz : Nat) (tg : Nat → Nat) (hSH : SH σ tg) (hG0 : GT tg I ri) (a0 : Int32) (a1 : Int32) (a2 : Int32) : MetL l yX12_w3 (wa yX12_w3 cX12_w3 3 (some .long)) ({ frames := 0, cells := 0, slots := 0, locals := 0 }) [.int a0, .int a1, .int a2] D t σ (I, J, ri, rj, rq) sz 0 0 (fun (r : Int64) (u : pq_S × pq_M) => u = (σ, I, J, ri, rj, rq) ∧ (r = w3f a0 a1 a2) ∧ g_X12_w3_d a0 a1 a2 = r) := by
  refine Met.ofW (cc := cX12_w3) (maxL := 3) (ret := (some .long)) (by decide +kernel) rfl ?_
  intro p e s m args below meth c s₁ B hml hv
  obtain ⟨rfl, hsz, hP, hK, hD0, hN⟩ := hv
  have hx := B.exec
  have hb := B.bytes
  have hr := B.returns
  have hts := atoms_spec (ws := (wa yX12_w3 cX12_w3 3 (some .long))) B.pre
  have hown : s.vm.findClass RX12 = some m.cls := findClass_of_methodNamed B.named
  have hlocks := B.notSynchronized
  subst hsz
  have hD : va_D (pq_B t σ (I, J, ri, rj, rq) s.heap.size) (pq_P t σ (I, J, ri, rj, rq)) := hD0.self
  generalize hAe : pq_B t σ (I, J, ri, rj, rq) s.heap.size = A at hD ⊢
  have hA : ∀ q : Nat, s.heap.size ≤ q → A q := fun q h => by rw [← hAe]; exact Or.inr h
  have hS : va_S A s.heap s.heap [] := va_S.rf
  have hG : GM [] tg σ I ri I ri rq := ⟨hG0, fun _ _ _ => rfl, fun _ _ _ _ _ => rfl, fun _ _ _ _ _ _ => rfl⟩
  have hl := lv_entry ([.int a0, .int a1, .int a2]) (n := 3) (Nat.le_of_ble_eq_true rfl)
  rw [lg_entry_eq]
  generalize (lg_sl ([.int a0, .int a1, .int a2]) ++ List.replicate (3 - (lg_sl ([.int a0, .int a1, .int a2])).length) Slot.unset).toArray = ls at hl ⊢
  have hl : lv_has ls 3 [(0, .int a0), (1, .int a1), (2, .int a2)] := hl
  refine q_gen (fun Q hQ => ?_)
  have go : ∀ (H : Heap) (locs : List Loc) (ls : Array Slot), va_P D vwCl (pq_P t σ (I, J, ri, rj, rq)) H → va_D A (pq_P t σ (I, J, ri, rj, rq)) → va_S A s.heap H locs → lv_has ls 3 [(0, .int a0), (1, .int a1), (2, .int a2)] → W p l e ({ frames := 0, cells := 0, slots := 0, locals := 0 } : Room) s m (List.toArray ([.int a0, .int a1, .int a2] : List Value)) below meth c H locs 0 0 Q (F0 m 0 ls []) := by
    intro H locs ls hP hD hS hl
    obtain ⟨F, hF0⟩ : ∃ F, F = g_X12_w3_d a0 a1 a2 := ⟨_, rfl⟩
    have hF := hF0.trans g_X12_w3_d_e
    refine lv_iload_n hx hb dX12_w3_0 rfl (lv_at hl 0 rfl) ?_
    refine lv_i2l hx hb dX12_w3_1 rfl ?_
    refine lv_topl (fun x_1 ex_1 => ?_)
    replace hF := hF.trans (ap_n ex_1)
    refine lv_bipush (v := 8) hx hb dX12_w3_2 (by decide +kernel) ?_
    refine lv_lshl hx hb dX12_w3_4 rfl ?_
    refine lv_topl (fun x_2 ex_2 => ?_)
    replace hF := hF.trans (ap_n ex_2)
    refine lv_iload_n hx hb dX12_w3_5 rfl (lv_at hl 1 rfl) ?_
    refine lv_i2l hx hb dX12_w3_6 rfl ?_
    refine lv_topl (fun x_3 ex_3 => ?_)
    replace hF := hF.trans (ap_n ex_3)
    refine lv_lor hx hb dX12_w3_7 ?_
    refine lv_topl (fun x_4 ex_4 => ?_)
    replace hF := hF.trans (ap_n ex_4)
    refine lv_bipush (v := 8) hx hb dX12_w3_8 (by decide +kernel) ?_
    refine lv_lshl hx hb dX12_w3_10 rfl ?_
    refine lv_topl (fun x_5 ex_5 => ?_)
    replace hF := hF.trans (ap_n ex_5)
    refine lv_iload_n hx hb dX12_w3_11 rfl (lv_at hl 2 rfl) ?_
    refine lv_i2l hx hb dX12_w3_12 rfl ?_
    refine lv_topl (fun x_6 ex_6 => ?_)
    replace hF := hF.trans (ap_n ex_6)
    refine lv_lor hx hb dX12_w3_13 ?_
    refine lv_topl (fun x_7 ex_7 => ?_)
    replace hF := hF.trans (ap_n ex_7)
    subst hQ
    exact W.lret (v := x_7) hx hb hr (fun t1 ht hW => ⟨⟨x_7, (σ, I, J, ri, rj, rq), rfl, ⟨rfl, (by subst_vars; rfl), (hF0.symm.trans hF)⟩, by rw [ht]; exact hP, va_K.moved hW.alike hK, hD⟩, hS.F ht⟩) hS.2.2 dX12_w3_14
  exact go _ _ _ hP hD hS hl

set_option maxRecDepth 100000 in
def g_X12_w4_d (a0 : Int32) (a1 : Int32) (a2 : Int32) (a3 : Int32) : Int64 := (ap1 (g_X12_w3_d a0 a1 a2) fun (x_1 : Int64) => (ap1 (x_1 <<< ((8 : Int32).toInt64 &&& 63)) fun (x_9 : Int64) => (ap1 (a3.toInt64) fun (x_10 : Int64) => (ap1 (x_9 ||| x_10) fun (x_11 : Int64) => x_11))))
set_option maxRecDepth 100000 in
theorem g_X12_w4_d_e {a0 : Int32} {a1 : Int32} {a2 : Int32} {a3 : Int32} : g_X12_w4_d a0 a1 a2 a3 = (ap1 (g_X12_w3_d a0 a1 a2) fun (x_1 : Int64) => (ap1 (x_1 <<< ((8 : Int32).toInt64 &&& 63)) fun (x_9 : Int64) => (ap1 (a3.toInt64) fun (x_10 : Int64) => (ap1 (x_9 ||| x_10) fun (x_11 : Int64) => x_11)))) := rfl
set_option maxHeartbeats 4000000 in
set_option maxRecDepth 100000 in
theorem s_X12_w4_d (l : Launch) (D : va_G) (t : pq_T) (σ : pq_S) (I : Nat → Nat → Int32) (J : Nat → Nat → Int64) (ri : Nat → Nat → Int32) (rj : Nat → Nat → Int64) (rq : Nat → Nat → Option Nat) (sz : Nat) (tg : Nat → Nat) (hSH : SH σ tg) (hG0 : GT tg I ri) (a0 : Int32) (a1 : Int32) (a2 : Int32) (a3 : Int32) : MetL l yX12_w4 (wa yX12_w4 cX12_w4 4 (some .long)) ({ frames := 1, cells := 0, slots := 0, locals := 22 }) [.int a0, .int a1, .int a2, .int a3] D t σ (I, J, ri, rj, rq) sz 0 0 (fun (r : Int64) (u : pq_S × pq_M) => u = (σ, I, J, ri, rj, rq) ∧ (r = w4f a0 a1 a2 a3) ∧ g_X12_w4_d a0 a1 a2 a3 = r) := by
  refine Met.ofW (cc := cX12_w4) (maxL := 4) (ret := (some .long)) (by decide +kernel) rfl ?_
  intro p e s m args below meth c s₁ B hml hv
  obtain ⟨rfl, hsz, hP, hK, hD0, hN⟩ := hv
  have hx := B.exec
  have hb := B.bytes
  have hr := B.returns
  have hts := atoms_spec (ws := (wa yX12_w4 cX12_w4 4 (some .long))) B.pre
  have hown : s.vm.findClass RX12 = some m.cls := findClass_of_methodNamed B.named
  have hlocks := B.notSynchronized
  subst hsz
  have hD : va_D (pq_B t σ (I, J, ri, rj, rq) s.heap.size) (pq_P t σ (I, J, ri, rj, rq)) := hD0.self
  generalize hAe : pq_B t σ (I, J, ri, rj, rq) s.heap.size = A at hD ⊢
  have hA : ∀ q : Nat, s.heap.size ≤ q → A q := fun q h => by rw [← hAe]; exact Or.inr h
  have hS : va_S A s.heap s.heap [] := va_S.rf
  have hG : GM [] tg σ I ri I ri rq := ⟨hG0, fun _ _ _ => rfl, fun _ _ _ _ _ => rfl, fun _ _ _ _ _ _ => rfl⟩
  have hl := lv_entry ([.int a0, .int a1, .int a2, .int a3]) (n := 4) (Nat.le_of_ble_eq_true rfl)
  rw [lg_entry_eq]
  generalize (lg_sl ([.int a0, .int a1, .int a2, .int a3]) ++ List.replicate (4 - (lg_sl ([.int a0, .int a1, .int a2, .int a3])).length) Slot.unset).toArray = ls at hl ⊢
  have hl : lv_has ls 4 [(0, .int a0), (1, .int a1), (2, .int a2), (3, .int a3)] := hl
  refine q_gen (fun Q hQ => ?_)
  have go : ∀ (H : Heap) (locs : List Loc) (ls : Array Slot), va_P D vwCl (pq_P t σ (I, J, ri, rj, rq)) H → va_D A (pq_P t σ (I, J, ri, rj, rq)) → va_S A s.heap H locs → lv_has ls 4 [(0, .int a0), (1, .int a1), (2, .int a2), (3, .int a3)] → W p l e ({ frames := 1, cells := 0, slots := 0, locals := 22 } : Room) s m (List.toArray ([.int a0, .int a1, .int a2, .int a3] : List Value)) below meth c H locs 0 0 Q (F0 m 0 ls []) := by
    intro H locs ls hP hD hS hl
    obtain ⟨F, hF0⟩ : ∃ F, F = g_X12_w4_d a0 a1 a2 a3 := ⟨_, rfl⟩
    have hF := hF0.trans g_X12_w4_d_e
    refine lv_iload_n hx hb dX12_w4_0 rfl (lv_at hl 0 rfl) ?_
    refine lv_iload_n hx hb dX12_w4_1 rfl (lv_at hl 1 rfl) ?_
    refine lv_iload_n hx hb dX12_w4_2 rfl (lv_at hl 2 rfl) ?_
    refine pk_l (va_runS (As := [.int a0, .int a1, .int a2]) (rest := []) ⟨hx, hb, hml, hown, hts⟩ (s_X12_w3_d l D t σ I J ri rj rq H.size tg hSH hG.1 a0 a1 a2) (va_cwS 3 hts (tw_S tw_864 tw_865 tw_5 tw_866) rfl rfl rfl cd_yX12_w3_3 ⟨Nat.le_of_ble_eq_true rfl, Nat.le_of_ble_eq_true rfl⟩) ⟨pq_blind, pq_pre hK hN hP hD⟩ rfl rfl hl.1 rfl (lv_room (Nat.le_of_ble_eq_true rfl)) dX12_w4_3 ⟨Nat.le_of_ble_eq_true rfl, Nat.le_of_ble_eq_true rfl⟩) hD hS hA (fun x_1 σ1 μ1 H locs hw_2 hP hD hS => ?_)
    obtain ⟨hu_3, hp_6, hfn_7⟩ := hw_2
    obtain ⟨hu_3a, hu_3b⟩ := Prod.mk.inj hu_3
    rw [hu_3a, hu_3b] at hP hD
    replace hF := hF.trans (ap_n hfn_7.symm)
    refine lv_bipush (v := 8) hx hb dX12_w4_6 (by decide +kernel) ?_
    refine lv_lshl hx hb dX12_w4_8 rfl ?_
    refine lv_topl (fun x_9 ex_9 => ?_)
    replace hF := hF.trans (ap_n ex_9)
    refine lv_iload_n hx hb dX12_w4_9 rfl (lv_at hl 3 rfl) ?_
    refine lv_i2l hx hb dX12_w4_10 rfl ?_
    refine lv_topl (fun x_10 ex_10 => ?_)
    replace hF := hF.trans (ap_n ex_10)
    refine lv_lor hx hb dX12_w4_11 ?_
    refine lv_topl (fun x_11 ex_11 => ?_)
    replace hF := hF.trans (ap_n ex_11)
    subst hQ
    exact W.lret (v := x_11) hx hb hr (fun t1 ht hW => ⟨⟨x_11, (σ, I, J, ri, rj, rq), rfl, ⟨rfl, (by subst_vars; rfl), (hF0.symm.trans hF)⟩, by rw [ht]; exact hP, va_K.moved hW.alike hK, hD⟩, hS.F ht⟩) hS.2.2 dX12_w4_12
  exact go _ _ _ hP hD hS hl

set_option maxRecDepth 100000 in
def g_X12_w5_d (a0 : Int32) (a1 : Int32) (a2 : Int32) (a3 : Int32) (a4 : Int32) : Int64 := (ap1 (g_X12_w4_d a0 a1 a2 a3) fun (x_1 : Int64) => (ap1 (x_1 <<< ((8 : Int32).toInt64 &&& 63)) fun (x_9 : Int64) => (ap1 (a4.toInt64) fun (x_10 : Int64) => (ap1 (x_9 ||| x_10) fun (x_11 : Int64) => x_11))))
set_option maxRecDepth 100000 in
theorem g_X12_w5_d_e {a0 : Int32} {a1 : Int32} {a2 : Int32} {a3 : Int32} {a4 : Int32} : g_X12_w5_d a0 a1 a2 a3 a4 = (ap1 (g_X12_w4_d a0 a1 a2 a3) fun (x_1 : Int64) => (ap1 (x_1 <<< ((8 : Int32).toInt64 &&& 63)) fun (x_9 : Int64) => (ap1 (a4.toInt64) fun (x_10 : Int64) => (ap1 (x_9 ||| x_10) fun (x_11 : Int64) => x_11)))) := rfl
set_option maxHeartbeats 4000000 in
set_option maxRecDepth 100000 in
theorem s_X12_w5_d (l : Launch) (D : va_G) (t : pq_T) (σ : pq_S) (I : Nat → Nat → Int32) (J : Nat → Nat → Int64) (ri : Nat → Nat → Int32) (rj : Nat → Nat → Int64) (rq : Nat → Nat → Option Nat) (sz : Nat) (tg : Nat → Nat) (hSH : SH σ tg) (hG0 : GT tg I ri) (a0 : Int32) (a1 : Int32) (a2 : Int32) (a3 : Int32) (a4 : Int32) : MetL l yX12_w5 (wa yX12_w5 cX12_w5 5 (some .long)) ({ frames := 2, cells := 0, slots := 0, locals := 45 }) [.int a0, .int a1, .int a2, .int a3, .int a4] D t σ (I, J, ri, rj, rq) sz 0 0 (fun (r : Int64) (u : pq_S × pq_M) => u = (σ, I, J, ri, rj, rq) ∧ (r = w5f a0 a1 a2 a3 a4) ∧ g_X12_w5_d a0 a1 a2 a3 a4 = r) := by
  refine Met.ofW (cc := cX12_w5) (maxL := 5) (ret := (some .long)) (by decide +kernel) rfl ?_
  intro p e s m args below meth c s₁ B hml hv
  obtain ⟨rfl, hsz, hP, hK, hD0, hN⟩ := hv
  have hx := B.exec
  have hb := B.bytes
  have hr := B.returns
  have hts := atoms_spec (ws := (wa yX12_w5 cX12_w5 5 (some .long))) B.pre
  have hown : s.vm.findClass RX12 = some m.cls := findClass_of_methodNamed B.named
  have hlocks := B.notSynchronized
  subst hsz
  have hD : va_D (pq_B t σ (I, J, ri, rj, rq) s.heap.size) (pq_P t σ (I, J, ri, rj, rq)) := hD0.self
  generalize hAe : pq_B t σ (I, J, ri, rj, rq) s.heap.size = A at hD ⊢
  have hA : ∀ q : Nat, s.heap.size ≤ q → A q := fun q h => by rw [← hAe]; exact Or.inr h
  have hS : va_S A s.heap s.heap [] := va_S.rf
  have hG : GM [] tg σ I ri I ri rq := ⟨hG0, fun _ _ _ => rfl, fun _ _ _ _ _ => rfl, fun _ _ _ _ _ _ => rfl⟩
  have hl := lv_entry ([.int a0, .int a1, .int a2, .int a3, .int a4]) (n := 5) (Nat.le_of_ble_eq_true rfl)
  rw [lg_entry_eq]
  generalize (lg_sl ([.int a0, .int a1, .int a2, .int a3, .int a4]) ++ List.replicate (5 - (lg_sl ([.int a0, .int a1, .int a2, .int a3, .int a4])).length) Slot.unset).toArray = ls at hl ⊢
  have hl : lv_has ls 5 [(0, .int a0), (1, .int a1), (2, .int a2), (3, .int a3), (4, .int a4)] := hl
  refine q_gen (fun Q hQ => ?_)
  have go : ∀ (H : Heap) (locs : List Loc) (ls : Array Slot), va_P D vwCl (pq_P t σ (I, J, ri, rj, rq)) H → va_D A (pq_P t σ (I, J, ri, rj, rq)) → va_S A s.heap H locs → lv_has ls 5 [(0, .int a0), (1, .int a1), (2, .int a2), (3, .int a3), (4, .int a4)] → W p l e ({ frames := 2, cells := 0, slots := 0, locals := 45 } : Room) s m (List.toArray ([.int a0, .int a1, .int a2, .int a3, .int a4] : List Value)) below meth c H locs 0 0 Q (F0 m 0 ls []) := by
    intro H locs ls hP hD hS hl
    obtain ⟨F, hF0⟩ : ∃ F, F = g_X12_w5_d a0 a1 a2 a3 a4 := ⟨_, rfl⟩
    have hF := hF0.trans g_X12_w5_d_e
    refine lv_iload_n hx hb dX12_w5_0 rfl (lv_at hl 0 rfl) ?_
    refine lv_iload_n hx hb dX12_w5_1 rfl (lv_at hl 1 rfl) ?_
    refine lv_iload_n hx hb dX12_w5_2 rfl (lv_at hl 2 rfl) ?_
    refine lv_iload_n hx hb dX12_w5_3 rfl (lv_at hl 3 rfl) ?_
    refine pk_l (va_runS (As := [.int a0, .int a1, .int a2, .int a3]) (rest := []) ⟨hx, hb, hml, hown, hts⟩ (s_X12_w4_d l D t σ I J ri rj rq H.size tg hSH hG.1 a0 a1 a2 a3) (va_cwS 4 hts (tw_S tw_861 tw_862 tw_5 tw_863) rfl rfl rfl cd_yX12_w4_4 ⟨Nat.le_of_ble_eq_true rfl, Nat.le_of_ble_eq_true rfl⟩) ⟨pq_blind, pq_pre hK hN hP hD⟩ rfl rfl hl.1 rfl (lv_room (Nat.le_of_ble_eq_true rfl)) dX12_w5_4 ⟨Nat.le_of_ble_eq_true rfl, Nat.le_of_ble_eq_true rfl⟩) hD hS hA (fun x_1 σ1 μ1 H locs hw_2 hP hD hS => ?_)
    obtain ⟨hu_3, hp_6, hfn_7⟩ := hw_2
    obtain ⟨hu_3a, hu_3b⟩ := Prod.mk.inj hu_3
    rw [hu_3a, hu_3b] at hP hD
    replace hF := hF.trans (ap_n hfn_7.symm)
    refine lv_bipush (v := 8) hx hb dX12_w5_7 (by decide +kernel) ?_
    refine lv_lshl hx hb dX12_w5_9 rfl ?_
    refine lv_topl (fun x_9 ex_9 => ?_)
    replace hF := hF.trans (ap_n ex_9)
    refine lv_iload hx hb dX12_w5_10 (lv_at hl 4 rfl) ?_
    refine lv_i2l hx hb dX12_w5_12 rfl ?_
    refine lv_topl (fun x_10 ex_10 => ?_)
    replace hF := hF.trans (ap_n ex_10)
    refine lv_lor hx hb dX12_w5_13 ?_
    refine lv_topl (fun x_11 ex_11 => ?_)
    replace hF := hF.trans (ap_n ex_11)
    subst hQ
    exact W.lret (v := x_11) hx hb hr (fun t1 ht hW => ⟨⟨x_11, (σ, I, J, ri, rj, rq), rfl, ⟨rfl, (by subst_vars; rfl), (hF0.symm.trans hF)⟩, by rw [ht]; exact hP, va_K.moved hW.alike hK, hD⟩, hS.F ht⟩) hS.2.2 dX12_w5_14
  exact go _ _ _ hP hD hS hl

set_option maxRecDepth 100000 in
def g_X12_nameOf_d (I : Nat → Int32) (J : Nat → Int64) (ri : Nat → Nat → Int32) (rj : Nat → Nat → Int64) (rq : Nat → Nat → Option Nat) : Int32 × vM := (ap1 (I 393) fun (y_1 : Int32) => (if (y_1) = (2 : Int32) then (ap1 (J 395) fun (y_8 : Int64) => (ap1 (g_X12_w3_d (97 : Int32) (103 : Int32) (101 : Int32)) fun (x_9 : Int64) => (ap1 (lg_cmp (y_8) x_9) fun (x_17 : Int32) => (if x_17 = (0 : Int32) then ((0 : Int32), I, J, ri, rj, rq) else (ap1 (g_X12_w3_d (107 : Int32) (105 : Int32) (110 : Int32)) fun (x_24 : Int64) => (ap1 (lg_cmp (y_8) x_24) fun (x_32 : Int32) => (if x_32 = (0 : Int32) then ((1 : Int32), I, J, ri, rj, rq) else (ap1 (g_X12_w5_d (99 : Int32) (114 : Int32) (97 : Int32) (102 : Int32) (116 : Int32)) fun (x_39 : Int64) => (ap1 (lg_cmp (y_8) x_39) fun (x_47 : Int32) => (if x_47 = (0 : Int32) then ((2 : Int32), I, J, ri, rj, rq) else (ap1 (g_X12_w5_d (112 : Int32) (108 : Int32) (97 : Int32) (99 : Int32) (101 : Int32)) fun (x_54 : Int64) => (ap1 (lg_cmp (y_8) x_54) fun (x_62 : Int32) => (if x_62 = (0 : Int32) then ((3 : Int32), I, J, ri, rj, rq) else (ap1 (g_X12_w5_d (109 : Int32) (111 : Int32) (110 : Int32) (116 : Int32) (104 : Int32)) fun (x_69 : Int64) => (ap1 (lg_cmp (y_8) x_69) fun (x_77 : Int32) => (if x_77 = (0 : Int32) then ((4 : Int32), I, J, ri, rj, rq) else (ap1 (g_X12_w5_d (117 : Int32) (110 : Int32) (100 : Int32) (101 : Int32) (114 : Int32)) fun (x_84 : Int64) => (ap1 (lg_cmp (y_8) x_84) fun (x_92 : Int32) => (if x_92 = (0 : Int32) then ((5 : Int32), I, J, ri, rj, rq) else ((-1 : Int32), I, J, ri, rj, rq)))))))))))))))))))) else ((-1 : Int32), I, J, ri, rj, rq)))
set_option maxRecDepth 100000 in
theorem g_X12_nameOf_d_e {I : Nat → Int32} {J : Nat → Int64} {ri : Nat → Nat → Int32} {rj : Nat → Nat → Int64} {rq : Nat → Nat → Option Nat} : g_X12_nameOf_d I J ri rj rq = (ap1 (I 393) fun (y_1 : Int32) => (if (y_1) = (2 : Int32) then (ap1 (J 395) fun (y_8 : Int64) => (ap1 (g_X12_w3_d (97 : Int32) (103 : Int32) (101 : Int32)) fun (x_9 : Int64) => (ap1 (lg_cmp (y_8) x_9) fun (x_17 : Int32) => (if x_17 = (0 : Int32) then ((0 : Int32), I, J, ri, rj, rq) else (ap1 (g_X12_w3_d (107 : Int32) (105 : Int32) (110 : Int32)) fun (x_24 : Int64) => (ap1 (lg_cmp (y_8) x_24) fun (x_32 : Int32) => (if x_32 = (0 : Int32) then ((1 : Int32), I, J, ri, rj, rq) else (ap1 (g_X12_w5_d (99 : Int32) (114 : Int32) (97 : Int32) (102 : Int32) (116 : Int32)) fun (x_39 : Int64) => (ap1 (lg_cmp (y_8) x_39) fun (x_47 : Int32) => (if x_47 = (0 : Int32) then ((2 : Int32), I, J, ri, rj, rq) else (ap1 (g_X12_w5_d (112 : Int32) (108 : Int32) (97 : Int32) (99 : Int32) (101 : Int32)) fun (x_54 : Int64) => (ap1 (lg_cmp (y_8) x_54) fun (x_62 : Int32) => (if x_62 = (0 : Int32) then ((3 : Int32), I, J, ri, rj, rq) else (ap1 (g_X12_w5_d (109 : Int32) (111 : Int32) (110 : Int32) (116 : Int32) (104 : Int32)) fun (x_69 : Int64) => (ap1 (lg_cmp (y_8) x_69) fun (x_77 : Int32) => (if x_77 = (0 : Int32) then ((4 : Int32), I, J, ri, rj, rq) else (ap1 (g_X12_w5_d (117 : Int32) (110 : Int32) (100 : Int32) (101 : Int32) (114 : Int32)) fun (x_84 : Int64) => (ap1 (lg_cmp (y_8) x_84) fun (x_92 : Int32) => (if x_92 = (0 : Int32) then ((5 : Int32), I, J, ri, rj, rq) else ((-1 : Int32), I, J, ri, rj, rq)))))))))))))))))))) else ((-1 : Int32), I, J, ri, rj, rq))) := rfl
set_option maxHeartbeats 4000000 in
set_option maxRecDepth 100000 in
theorem s_X12_nameOf_d (l : Launch) (D : va_G) (t : pq_T) (σ : pq_S) (I : Nat → Nat → Int32) (J : Nat → Nat → Int64) (ri : Nat → Nat → Int32) (rj : Nat → Nat → Int64) (rq : Nat → Nat → Option Nat) (sz : Nat) (tg : Nat → Nat) (hSH : SH σ tg) (hG0 : GT tg I ri) (this : Nat) (hL_this : this ∈ σ.1) (hK_this : σ.2.1 this = 12) : MetI l yX12_nameOf (wa yX12_nameOf cX12_nameOf 1 (some .int)) ({ frames := 3, cells := 0, slots := 0, locals := 69 }) [.ref this] D t σ (I, J, ri, rj, rq) sz 0 0 (fun (r : Int32) (u : pq_S × pq_M) => u = (σ, I, J, ri, rj, rq) ∧ (NMP r (I 393 this).toInt (J 395 this)) ∧ g_X12_nameOf_d (vI 12 σ this I) (vJ 12 σ this J) (vR 12 σ this ri) (vL 12 σ this rj) (vQ 12 σ this rq) = (r, (vI 12 σ this I), (vJ 12 σ this J), (vR 12 σ this ri), (vL 12 σ this rj), (vQ 12 σ this rq)) ∧ rg r (-1) 5) := by
  refine Met.ofW (cc := cX12_nameOf) (maxL := 1) (ret := (some .int)) (by decide +kernel) rfl ?_
  intro p e s m args below meth c s₁ B hml hv
  obtain ⟨rfl, hsz, hP, hK, hD0, hN⟩ := hv
  have hx := B.exec
  have hb := B.bytes
  have hr := B.returns
  have hts := atoms_spec (ws := (wa yX12_nameOf cX12_nameOf 1 (some .int))) B.pre
  have hown : s.vm.findClass RX12 = some m.cls := findClass_of_methodNamed B.named
  have hlocks := B.notSynchronized
  subst hsz
  have hD : va_D (pq_B t σ (I, J, ri, rj, rq) s.heap.size) (pq_P t σ (I, J, ri, rj, rq)) := hD0.self
  generalize hAe : pq_B t σ (I, J, ri, rj, rq) s.heap.size = A at hD ⊢
  have hA : ∀ q : Nat, s.heap.size ≤ q → A q := fun q h => by rw [← hAe]; exact Or.inr h
  have hS : va_S A s.heap s.heap [] := va_S.rf
  have hG : GM [] tg σ I ri I ri rq := ⟨hG0, fun _ _ _ => rfl, fun _ _ _ _ _ => rfl, fun _ _ _ _ _ _ => rfl⟩
  have hl := lv_entry ([.ref this]) (n := 1) (Nat.le_of_ble_eq_true rfl)
  rw [lg_entry_eq]
  generalize (lg_sl ([.ref this]) ++ List.replicate (1 - (lg_sl ([.ref this])).length) Slot.unset).toArray = ls at hl ⊢
  have hl : lv_has ls 1 [(0, .ref this)] := hl
  refine q_gen (fun Q hQ => ?_)
  have go : ∀ (H : Heap) (locs : List Loc) (ls : Array Slot), va_P D vwCl (pq_P t σ (I, J, ri, rj, rq)) H → va_D A (pq_P t σ (I, J, ri, rj, rq)) → va_S A s.heap H locs → lv_has ls 1 [(0, .ref this)] → W p l e ({ frames := 3, cells := 0, slots := 0, locals := 69 } : Room) s m (List.toArray ([.ref this] : List Value)) below meth c H locs 0 0 Q (F0 m 0 ls []) := by
    intro H locs ls hP hD hS hl
    have hO_this : this = vo σ 12 this := rfl
    have hVT : VT 12 σ tg this := vt_12 hSH hL_this hK_this
    have hFr : FR 12 tg σ this (I, J, ri, rj, rq) (I, J, ri, rj, rq) := fr_rf
    obtain ⟨F, hF0⟩ : ∃ F, F = g_X12_nameOf_d (vI 12 σ this I) (vJ 12 σ this J) (vR 12 σ this ri) (vL 12 σ this rj) (vQ 12 σ this rq) := ⟨_, rfl⟩
    have hF := hF0.trans g_X12_nameOf_d_e
    refine lv_aload_n hx hb dX12_nameOf_0 rfl (lv_at hl 0 rfl) ?_
    refine pg_f (v := .int (I 393 this)) (C := RX12) (T := TX12) (N := 31) hx hb hts (tw_i inlX12) hown hK hP hL_this hK_this (by decide +kernel) rfl 9 (by decide +kernel) (hts _ (tw_c tw_831)) rfl dX12_nameOf_1 ?_
    replace hF := hF.trans (ap_n (vI_e (f := 393) hO_this (by decide +kernel)))
    refine lv_iconst (v := 2) hx hb dX12_nameOf_4 (by decide +kernel) ?_
    refine lv_icmp_eq (tgt := 10) hx hb dX12_nameOf_5 (by decide +kernel) (fun c_2 => ?_) (fun c_2 => ?_)
    · replace hF := hF.trans (if_pos c_2)
      have tc_6 : (I 393 this).toInt = 2 := congrArg Int32.toInt c_2
      have h_7 : rg (I 393 this) 2 2 := rg_and (rg_full _) (rg_of_eq c_2 (rg_k (2 : Int32) 2 rfl)) (by decide +kernel)
      have uh_7 := h_7.1
      have vh_7 := h_7.2
      refine lv_aload_n hx hb dX12_nameOf_10 rfl (lv_at hl 0 rfl) ?_
      refine pg_f (v := .long (J 395 this)) (C := RX12) (T := TX12) (N := 31) hx hb hts (tw_i inlX12) hown hK hP hL_this hK_this (by decide +kernel) rfl 11 (by decide +kernel) (hts _ (tw_c tw_838)) rfl dX12_nameOf_11 ?_
      replace hF := hF.trans (ap_n (vJ_e (f := 395) hO_this (by decide +kernel)))
      refine lv_bipush (v := 97) hx hb dX12_nameOf_14 (by decide +kernel) ?_
      refine lv_bipush (v := 103) hx hb dX12_nameOf_16 (by decide +kernel) ?_
      refine lv_bipush (v := 101) hx hb dX12_nameOf_18 (by decide +kernel) ?_
      refine pk_l (va_runS (As := [.int 97, .int 103, .int 101]) (rest := [.long (J 395 this)]) ⟨hx, hb, hml, hown, hts⟩ (s_X12_w3_d l D t σ I J ri rj rq H.size tg hSH hG.1 (97 : Int32) (103 : Int32) (101 : Int32)) (va_cwS 3 hts (tw_S tw_864 tw_865 tw_5 tw_866) rfl rfl rfl cd_yX12_w3_3 ⟨Nat.le_of_ble_eq_true rfl, Nat.le_of_ble_eq_true rfl⟩) ⟨pq_blind, pq_pre hK hN hP hD⟩ rfl rfl hl.1 rfl (lv_room (Nat.le_of_ble_eq_true rfl)) dX12_nameOf_20 ⟨Nat.le_of_ble_eq_true rfl, Nat.le_of_ble_eq_true rfl⟩) hD hS hA (fun x_9 σ1 μ1 H locs hw_10 hP hD hS => ?_)
      obtain ⟨hu_11, hp_14, hfn_15⟩ := hw_10
      obtain ⟨hu_11a, hu_11b⟩ := Prod.mk.inj hu_11
      rw [hu_11a, hu_11b] at hP hD
      replace hF := hF.trans (ap_n hfn_15.symm)
      refine W.lcmp hx hb dX12_nameOf_23 ?_
      refine lv_topi (fun x_17 ex_17 => ?_)
      replace hF := hF.trans (ap_n ex_17)
      have hz_18 : x_17 = 0 ↔ J 395 this = w3f 97 103 101 := by rw [ex_17, hp_14]; exact cmp_iff
      refine lv_if_ne (tgt := 29) hx hb dX12_nameOf_24 (by decide +kernel) (fun c_19 => ?_) (fun c_19 => ?_)
      · replace hF := hF.trans (if_neg c_19)
        have tc_23 : (x_17).toInt ≠ 0 := fun q => c_19 (Int32.toInt_inj.mp q)
        refine lv_aload_n hx hb dX12_nameOf_29 rfl (lv_at hl 0 rfl) ?_
        refine pg_f (v := .long (J 395 this)) (C := RX12) (T := TX12) (N := 31) hx hb hts (tw_i inlX12) hown hK hP hL_this hK_this (by decide +kernel) rfl 11 (by decide +kernel) (hts _ (tw_c tw_838)) rfl dX12_nameOf_30 ?_
        refine lv_bipush (v := 107) hx hb dX12_nameOf_33 (by decide +kernel) ?_
        refine lv_bipush (v := 105) hx hb dX12_nameOf_35 (by decide +kernel) ?_
        refine lv_bipush (v := 110) hx hb dX12_nameOf_37 (by decide +kernel) ?_
        refine pk_l (va_runS (As := [.int 107, .int 105, .int 110]) (rest := [.long (J 395 this)]) ⟨hx, hb, hml, hown, hts⟩ (s_X12_w3_d l D t σ I J ri rj rq H.size tg hSH hG.1 (107 : Int32) (105 : Int32) (110 : Int32)) (va_cwS 3 hts (tw_S tw_864 tw_865 tw_5 tw_866) rfl rfl rfl cd_yX12_w3_3 ⟨Nat.le_of_ble_eq_true rfl, Nat.le_of_ble_eq_true rfl⟩) ⟨pq_blind, pq_pre hK hN hP hD⟩ rfl rfl hl.1 rfl (lv_room (Nat.le_of_ble_eq_true rfl)) dX12_nameOf_39 ⟨Nat.le_of_ble_eq_true rfl, Nat.le_of_ble_eq_true rfl⟩) hD hS hA (fun x_24 σ1 μ1 H locs hw_25 hP hD hS => ?_)
        obtain ⟨hu_26, hp_29, hfn_30⟩ := hw_25
        obtain ⟨hu_26a, hu_26b⟩ := Prod.mk.inj hu_26
        rw [hu_26a, hu_26b] at hP hD
        replace hF := hF.trans (ap_n hfn_30.symm)
        refine W.lcmp hx hb dX12_nameOf_42 ?_
        refine lv_topi (fun x_32 ex_32 => ?_)
        replace hF := hF.trans (ap_n ex_32)
        have hz_33 : x_32 = 0 ↔ J 395 this = w3f 107 105 110 := by rw [ex_32, hp_29]; exact cmp_iff
        refine lv_if_ne (tgt := 48) hx hb dX12_nameOf_43 (by decide +kernel) (fun c_34 => ?_) (fun c_34 => ?_)
        · replace hF := hF.trans (if_neg c_34)
          have tc_38 : (x_32).toInt ≠ 0 := fun q => c_34 (Int32.toInt_inj.mp q)
          refine lv_aload_n hx hb dX12_nameOf_48 rfl (lv_at hl 0 rfl) ?_
          refine pg_f (v := .long (J 395 this)) (C := RX12) (T := TX12) (N := 31) hx hb hts (tw_i inlX12) hown hK hP hL_this hK_this (by decide +kernel) rfl 11 (by decide +kernel) (hts _ (tw_c tw_838)) rfl dX12_nameOf_49 ?_
          refine lv_bipush (v := 99) hx hb dX12_nameOf_52 (by decide +kernel) ?_
          refine lv_bipush (v := 114) hx hb dX12_nameOf_54 (by decide +kernel) ?_
          refine lv_bipush (v := 97) hx hb dX12_nameOf_56 (by decide +kernel) ?_
          refine lv_bipush (v := 102) hx hb dX12_nameOf_58 (by decide +kernel) ?_
          refine lv_bipush (v := 116) hx hb dX12_nameOf_60 (by decide +kernel) ?_
          refine pk_l (va_runS (As := [.int 99, .int 114, .int 97, .int 102, .int 116]) (rest := [.long (J 395 this)]) ⟨hx, hb, hml, hown, hts⟩ (s_X12_w5_d l D t σ I J ri rj rq H.size tg hSH hG.1 (99 : Int32) (114 : Int32) (97 : Int32) (102 : Int32) (116 : Int32)) (va_cwS 5 hts (tw_S tw_858 tw_859 tw_5 tw_860) rfl rfl rfl cd_yX12_w5_5 ⟨Nat.le_of_ble_eq_true rfl, Nat.le_of_ble_eq_true rfl⟩) ⟨pq_blind, pq_pre hK hN hP hD⟩ rfl rfl hl.1 rfl (lv_room (Nat.le_of_ble_eq_true rfl)) dX12_nameOf_62 ⟨Nat.le_of_ble_eq_true rfl, Nat.le_of_ble_eq_true rfl⟩) hD hS hA (fun x_39 σ1 μ1 H locs hw_40 hP hD hS => ?_)
          obtain ⟨hu_41, hp_44, hfn_45⟩ := hw_40
          obtain ⟨hu_41a, hu_41b⟩ := Prod.mk.inj hu_41
          rw [hu_41a, hu_41b] at hP hD
          replace hF := hF.trans (ap_n hfn_45.symm)
          refine W.lcmp hx hb dX12_nameOf_65 ?_
          refine lv_topi (fun x_47 ex_47 => ?_)
          replace hF := hF.trans (ap_n ex_47)
          have hz_48 : x_47 = 0 ↔ J 395 this = w5f 99 114 97 102 116 := by rw [ex_47, hp_44]; exact cmp_iff
          refine lv_if_ne (tgt := 71) hx hb dX12_nameOf_66 (by decide +kernel) (fun c_49 => ?_) (fun c_49 => ?_)
          · replace hF := hF.trans (if_neg c_49)
            have tc_53 : (x_47).toInt ≠ 0 := fun q => c_49 (Int32.toInt_inj.mp q)
            refine lv_aload_n hx hb dX12_nameOf_71 rfl (lv_at hl 0 rfl) ?_
            refine pg_f (v := .long (J 395 this)) (C := RX12) (T := TX12) (N := 31) hx hb hts (tw_i inlX12) hown hK hP hL_this hK_this (by decide +kernel) rfl 11 (by decide +kernel) (hts _ (tw_c tw_838)) rfl dX12_nameOf_72 ?_
            refine lv_bipush (v := 112) hx hb dX12_nameOf_75 (by decide +kernel) ?_
            refine lv_bipush (v := 108) hx hb dX12_nameOf_77 (by decide +kernel) ?_
            refine lv_bipush (v := 97) hx hb dX12_nameOf_79 (by decide +kernel) ?_
            refine lv_bipush (v := 99) hx hb dX12_nameOf_81 (by decide +kernel) ?_
            refine lv_bipush (v := 101) hx hb dX12_nameOf_83 (by decide +kernel) ?_
            refine pk_l (va_runS (As := [.int 112, .int 108, .int 97, .int 99, .int 101]) (rest := [.long (J 395 this)]) ⟨hx, hb, hml, hown, hts⟩ (s_X12_w5_d l D t σ I J ri rj rq H.size tg hSH hG.1 (112 : Int32) (108 : Int32) (97 : Int32) (99 : Int32) (101 : Int32)) (va_cwS 5 hts (tw_S tw_858 tw_859 tw_5 tw_860) rfl rfl rfl cd_yX12_w5_5 ⟨Nat.le_of_ble_eq_true rfl, Nat.le_of_ble_eq_true rfl⟩) ⟨pq_blind, pq_pre hK hN hP hD⟩ rfl rfl hl.1 rfl (lv_room (Nat.le_of_ble_eq_true rfl)) dX12_nameOf_85 ⟨Nat.le_of_ble_eq_true rfl, Nat.le_of_ble_eq_true rfl⟩) hD hS hA (fun x_54 σ1 μ1 H locs hw_55 hP hD hS => ?_)
            obtain ⟨hu_56, hp_59, hfn_60⟩ := hw_55
            obtain ⟨hu_56a, hu_56b⟩ := Prod.mk.inj hu_56
            rw [hu_56a, hu_56b] at hP hD
            replace hF := hF.trans (ap_n hfn_60.symm)
            refine W.lcmp hx hb dX12_nameOf_88 ?_
            refine lv_topi (fun x_62 ex_62 => ?_)
            replace hF := hF.trans (ap_n ex_62)
            have hz_63 : x_62 = 0 ↔ J 395 this = w5f 112 108 97 99 101 := by rw [ex_62, hp_59]; exact cmp_iff
            refine lv_if_ne (tgt := 94) hx hb dX12_nameOf_89 (by decide +kernel) (fun c_64 => ?_) (fun c_64 => ?_)
            · replace hF := hF.trans (if_neg c_64)
              have tc_68 : (x_62).toInt ≠ 0 := fun q => c_64 (Int32.toInt_inj.mp q)
              refine lv_aload_n hx hb dX12_nameOf_94 rfl (lv_at hl 0 rfl) ?_
              refine pg_f (v := .long (J 395 this)) (C := RX12) (T := TX12) (N := 31) hx hb hts (tw_i inlX12) hown hK hP hL_this hK_this (by decide +kernel) rfl 11 (by decide +kernel) (hts _ (tw_c tw_838)) rfl dX12_nameOf_95 ?_
              refine lv_bipush (v := 109) hx hb dX12_nameOf_98 (by decide +kernel) ?_
              refine lv_bipush (v := 111) hx hb dX12_nameOf_100 (by decide +kernel) ?_
              refine lv_bipush (v := 110) hx hb dX12_nameOf_102 (by decide +kernel) ?_
              refine lv_bipush (v := 116) hx hb dX12_nameOf_104 (by decide +kernel) ?_
              refine lv_bipush (v := 104) hx hb dX12_nameOf_106 (by decide +kernel) ?_
              refine pk_l (va_runS (As := [.int 109, .int 111, .int 110, .int 116, .int 104]) (rest := [.long (J 395 this)]) ⟨hx, hb, hml, hown, hts⟩ (s_X12_w5_d l D t σ I J ri rj rq H.size tg hSH hG.1 (109 : Int32) (111 : Int32) (110 : Int32) (116 : Int32) (104 : Int32)) (va_cwS 5 hts (tw_S tw_858 tw_859 tw_5 tw_860) rfl rfl rfl cd_yX12_w5_5 ⟨Nat.le_of_ble_eq_true rfl, Nat.le_of_ble_eq_true rfl⟩) ⟨pq_blind, pq_pre hK hN hP hD⟩ rfl rfl hl.1 rfl (lv_room (Nat.le_of_ble_eq_true rfl)) dX12_nameOf_108 ⟨Nat.le_of_ble_eq_true rfl, Nat.le_of_ble_eq_true rfl⟩) hD hS hA (fun x_69 σ1 μ1 H locs hw_70 hP hD hS => ?_)
              obtain ⟨hu_71, hp_74, hfn_75⟩ := hw_70
              obtain ⟨hu_71a, hu_71b⟩ := Prod.mk.inj hu_71
              rw [hu_71a, hu_71b] at hP hD
              replace hF := hF.trans (ap_n hfn_75.symm)
              refine W.lcmp hx hb dX12_nameOf_111 ?_
              refine lv_topi (fun x_77 ex_77 => ?_)
              replace hF := hF.trans (ap_n ex_77)
              have hz_78 : x_77 = 0 ↔ J 395 this = w5f 109 111 110 116 104 := by rw [ex_77, hp_74]; exact cmp_iff
              refine lv_if_ne (tgt := 119) hx hb dX12_nameOf_112 (by decide +kernel) (fun c_79 => ?_) (fun c_79 => ?_)
              · replace hF := hF.trans (if_neg c_79)
                have tc_83 : (x_77).toInt ≠ 0 := fun q => c_79 (Int32.toInt_inj.mp q)
                refine lv_aload_n hx hb dX12_nameOf_119 rfl (lv_at hl 0 rfl) ?_
                refine pg_f (v := .long (J 395 this)) (C := RX12) (T := TX12) (N := 31) hx hb hts (tw_i inlX12) hown hK hP hL_this hK_this (by decide +kernel) rfl 11 (by decide +kernel) (hts _ (tw_c tw_838)) rfl dX12_nameOf_120 ?_
                refine lv_bipush (v := 117) hx hb dX12_nameOf_123 (by decide +kernel) ?_
                refine lv_bipush (v := 110) hx hb dX12_nameOf_125 (by decide +kernel) ?_
                refine lv_bipush (v := 100) hx hb dX12_nameOf_127 (by decide +kernel) ?_
                refine lv_bipush (v := 101) hx hb dX12_nameOf_129 (by decide +kernel) ?_
                refine lv_bipush (v := 114) hx hb dX12_nameOf_131 (by decide +kernel) ?_
                refine pk_l (va_runS (As := [.int 117, .int 110, .int 100, .int 101, .int 114]) (rest := [.long (J 395 this)]) ⟨hx, hb, hml, hown, hts⟩ (s_X12_w5_d l D t σ I J ri rj rq H.size tg hSH hG.1 (117 : Int32) (110 : Int32) (100 : Int32) (101 : Int32) (114 : Int32)) (va_cwS 5 hts (tw_S tw_858 tw_859 tw_5 tw_860) rfl rfl rfl cd_yX12_w5_5 ⟨Nat.le_of_ble_eq_true rfl, Nat.le_of_ble_eq_true rfl⟩) ⟨pq_blind, pq_pre hK hN hP hD⟩ rfl rfl hl.1 rfl (lv_room (Nat.le_of_ble_eq_true rfl)) dX12_nameOf_133 ⟨Nat.le_of_ble_eq_true rfl, Nat.le_of_ble_eq_true rfl⟩) hD hS hA (fun x_84 σ1 μ1 H locs hw_85 hP hD hS => ?_)
                obtain ⟨hu_86, hp_89, hfn_90⟩ := hw_85
                obtain ⟨hu_86a, hu_86b⟩ := Prod.mk.inj hu_86
                rw [hu_86a, hu_86b] at hP hD
                replace hF := hF.trans (ap_n hfn_90.symm)
                refine W.lcmp hx hb dX12_nameOf_136 ?_
                refine lv_topi (fun x_92 ex_92 => ?_)
                replace hF := hF.trans (ap_n ex_92)
                have hz_93 : x_92 = 0 ↔ J 395 this = w5f 117 110 100 101 114 := by rw [ex_92, hp_89]; exact cmp_iff
                refine lv_if_ne (tgt := 144) hx hb dX12_nameOf_137 (by decide +kernel) (fun c_94 => ?_) (fun c_94 => ?_)
                · replace hF := hF.trans (if_neg c_94)
                  have tc_98 : (x_92).toInt ≠ 0 := fun q => c_94 (Int32.toInt_inj.mp q)
                  refine lv_iconst (v := (-1)) hx hb dX12_nameOf_144 (by decide +kernel) ?_
                  subst hQ
                  exact W.iret (v := (-1)) hx hb hr (fun t1 ht hW => ⟨⟨(-1), (σ, I, J, ri, rj, rq), rfl, ⟨rfl, ⟨fun q => absurd q (by decide +kernel), fun _ _ => (fun q => q.elim (fun q => absurd (hz_18.mpr q) (by assumption)) (fun q => q.elim (fun q => absurd (hz_33.mpr q) (by assumption)) (fun q => q.elim (fun q => absurd (hz_48.mpr q) (by assumption)) (fun q => q.elim (fun q => absurd (hz_63.mpr q) (by assumption)) (fun q => q.elim (fun q => absurd (hz_78.mpr q) (by assumption)) (fun q => absurd (hz_93.mpr q) (by assumption)))))))⟩, (hF0.symm.trans hF), (rg_w (rg_k (-1 : Int32) (-1) rfl) (by decide +kernel))⟩, by rw [ht]; exact hP, va_K.moved hW.alike hK, hD⟩, hS.F ht⟩) hS.2.2 dX12_nameOf_145
                · replace hF := hF.trans (if_pos c_94)
                  have tc_99 : (x_92).toInt = 0 := congrArg Int32.toInt c_94
                  have h_100 : rg x_92 0 0 := rg_and (rg_full _) (rg_of_eq c_94 (rg_k (0 : Int32) 0 rfl)) (by decide +kernel)
                  have uh_100 := h_100.1
                  have vh_100 := h_100.2
                  refine lv_iconst (v := 5) hx hb dX12_nameOf_140 (by decide +kernel) ?_
                  refine lv_goto (tgt := 145) hx hb dX12_nameOf_141 (by decide +kernel) ?_
                  subst hQ
                  exact W.iret (v := 5) hx hb hr (fun t1 ht hW => ⟨⟨5, (σ, I, J, ri, rj, rq), rfl, ⟨rfl, ⟨fun _ => ⟨by omega, (Or.inr (Or.inr (Or.inr (Or.inr (Or.inr (hz_93.mp (by assumption)))))))⟩, fun q => absurd q (by decide +kernel)⟩, (hF0.symm.trans hF), (rg_w (rg_k (5 : Int32) 5 rfl) (by decide +kernel))⟩, by rw [ht]; exact hP, va_K.moved hW.alike hK, hD⟩, hS.F ht⟩) hS.2.2 dX12_nameOf_145
              · replace hF := hF.trans (if_pos c_79)
                have tc_101 : (x_77).toInt = 0 := congrArg Int32.toInt c_79
                have h_102 : rg x_77 0 0 := rg_and (rg_full _) (rg_of_eq c_79 (rg_k (0 : Int32) 0 rfl)) (by decide +kernel)
                have uh_102 := h_102.1
                have vh_102 := h_102.2
                refine lv_iconst (v := 4) hx hb dX12_nameOf_115 (by decide +kernel) ?_
                refine lv_goto (tgt := 145) hx hb dX12_nameOf_116 (by decide +kernel) ?_
                subst hQ
                exact W.iret (v := 4) hx hb hr (fun t1 ht hW => ⟨⟨4, (σ, I, J, ri, rj, rq), rfl, ⟨rfl, ⟨fun _ => ⟨by omega, (Or.inr (Or.inr (Or.inr (Or.inr (Or.inl (hz_78.mp (by assumption)))))))⟩, fun q => absurd q (by decide +kernel)⟩, (hF0.symm.trans hF), (rg_w (rg_k (4 : Int32) 4 rfl) (by decide +kernel))⟩, by rw [ht]; exact hP, va_K.moved hW.alike hK, hD⟩, hS.F ht⟩) hS.2.2 dX12_nameOf_145
            · replace hF := hF.trans (if_pos c_64)
              have tc_103 : (x_62).toInt = 0 := congrArg Int32.toInt c_64
              have h_104 : rg x_62 0 0 := rg_and (rg_full _) (rg_of_eq c_64 (rg_k (0 : Int32) 0 rfl)) (by decide +kernel)
              have uh_104 := h_104.1
              have vh_104 := h_104.2
              refine lv_iconst (v := 3) hx hb dX12_nameOf_92 (by decide +kernel) ?_
              subst hQ
              exact W.iret (v := 3) hx hb hr (fun t1 ht hW => ⟨⟨3, (σ, I, J, ri, rj, rq), rfl, ⟨rfl, ⟨fun _ => ⟨by omega, (Or.inr (Or.inr (Or.inr (Or.inl (hz_63.mp (by assumption))))))⟩, fun q => absurd q (by decide +kernel)⟩, (hF0.symm.trans hF), (rg_w (rg_k (3 : Int32) 3 rfl) (by decide +kernel))⟩, by rw [ht]; exact hP, va_K.moved hW.alike hK, hD⟩, hS.F ht⟩) hS.2.2 dX12_nameOf_93
          · replace hF := hF.trans (if_pos c_49)
            have tc_105 : (x_47).toInt = 0 := congrArg Int32.toInt c_49
            have h_106 : rg x_47 0 0 := rg_and (rg_full _) (rg_of_eq c_49 (rg_k (0 : Int32) 0 rfl)) (by decide +kernel)
            have uh_106 := h_106.1
            have vh_106 := h_106.2
            refine lv_iconst (v := 2) hx hb dX12_nameOf_69 (by decide +kernel) ?_
            subst hQ
            exact W.iret (v := 2) hx hb hr (fun t1 ht hW => ⟨⟨2, (σ, I, J, ri, rj, rq), rfl, ⟨rfl, ⟨fun _ => ⟨by omega, (Or.inr (Or.inr (Or.inl (hz_48.mp (by assumption)))))⟩, fun q => absurd q (by decide +kernel)⟩, (hF0.symm.trans hF), (rg_w (rg_k (2 : Int32) 2 rfl) (by decide +kernel))⟩, by rw [ht]; exact hP, va_K.moved hW.alike hK, hD⟩, hS.F ht⟩) hS.2.2 dX12_nameOf_70
        · replace hF := hF.trans (if_pos c_34)
          have tc_107 : (x_32).toInt = 0 := congrArg Int32.toInt c_34
          have h_108 : rg x_32 0 0 := rg_and (rg_full _) (rg_of_eq c_34 (rg_k (0 : Int32) 0 rfl)) (by decide +kernel)
          have uh_108 := h_108.1
          have vh_108 := h_108.2
          refine lv_iconst (v := 1) hx hb dX12_nameOf_46 (by decide +kernel) ?_
          subst hQ
          exact W.iret (v := 1) hx hb hr (fun t1 ht hW => ⟨⟨1, (σ, I, J, ri, rj, rq), rfl, ⟨rfl, ⟨fun _ => ⟨by omega, (Or.inr (Or.inl (hz_33.mp (by assumption))))⟩, fun q => absurd q (by decide +kernel)⟩, (hF0.symm.trans hF), (rg_w (rg_k (1 : Int32) 1 rfl) (by decide +kernel))⟩, by rw [ht]; exact hP, va_K.moved hW.alike hK, hD⟩, hS.F ht⟩) hS.2.2 dX12_nameOf_47
      · replace hF := hF.trans (if_pos c_19)
        have tc_109 : (x_17).toInt = 0 := congrArg Int32.toInt c_19
        have h_110 : rg x_17 0 0 := rg_and (rg_full _) (rg_of_eq c_19 (rg_k (0 : Int32) 0 rfl)) (by decide +kernel)
        have uh_110 := h_110.1
        have vh_110 := h_110.2
        refine lv_iconst (v := 0) hx hb dX12_nameOf_27 (by decide +kernel) ?_
        subst hQ
        exact W.iret (v := 0) hx hb hr (fun t1 ht hW => ⟨⟨0, (σ, I, J, ri, rj, rq), rfl, ⟨rfl, ⟨fun _ => ⟨by omega, (Or.inl (hz_18.mp (by assumption)))⟩, fun q => absurd q (by decide +kernel)⟩, (hF0.symm.trans hF), (rg_w (rg_k (0 : Int32) 0 rfl) (by decide +kernel))⟩, by rw [ht]; exact hP, va_K.moved hW.alike hK, hD⟩, hS.F ht⟩) hS.2.2 dX12_nameOf_28
    · replace hF := hF.trans (if_neg c_2)
      have tc_111 : (I 393 this).toInt ≠ 2 := fun q => c_2 (Int32.toInt_inj.mp q)
      refine lv_iconst (v := (-1)) hx hb dX12_nameOf_8 (by decide +kernel) ?_
      subst hQ
      exact W.iret (v := (-1)) hx hb hr (fun t1 ht hW => ⟨⟨(-1), (σ, I, J, ri, rj, rq), rfl, ⟨rfl, ⟨fun q => absurd q (by decide +kernel), fun _ q => absurd q (by omega)⟩, (hF0.symm.trans hF), (rg_w (rg_k (-1 : Int32) (-1) rfl) (by decide +kernel))⟩, by rw [ht]; exact hP, va_K.moved hW.alike hK, hD⟩, hS.F ht⟩) hS.2.2 dX12_nameOf_9
  exact go _ _ _ hP hD hS hl
theorem dX12_keys_0 : decode cX12_keys 0 = .ok (.aload_n 0, 1) := oc_42 (by decide +kernel)
theorem dX12_keys_1 : decode cX12_keys 1 = .ok (.getfield 7, 3) := oc_180 (a := 0) (b := 7) (by decide +kernel)
theorem dX12_keys_4 : decode cX12_keys 4 = .ok (.iload_n 1, 1) := oc_27 (by decide +kernel)
theorem dX12_keys_5 : decode cX12_keys 5 = .ok (.iconst 4, 1) := oc_7 (by decide +kernel)
theorem dX12_keys_6 : decode cX12_keys 6 = .ok (.iadd, 1) := oc_96 (by decide +kernel)
theorem dX12_keys_7 : decode cX12_keys 7 = .ok (.iconst 0, 1) := oc_3 (by decide +kernel)
theorem dX12_keys_8 : decode cX12_keys 8 = .ok (.iastore, 1) := oc_79 (by decide +kernel)
theorem dX12_keys_9 : decode cX12_keys 9 = .ok (.iconst 1, 1) := oc_4 (by decide +kernel)
theorem dX12_keys_10 : decode cX12_keys 10 = .ok (.istore_n 2, 1) := oc_61 (by decide +kernel)
theorem dX12_keys_11 : decode cX12_keys 11 = .ok (.iload_n 2, 1) := oc_28 (by decide +kernel)
theorem dX12_keys_12 : decode cX12_keys 12 = .ok (.ifCond .eq 136, 3) := oc_153 (a := 0) (b := 136) (by decide +kernel)
theorem dX12_keys_148 : decode cX12_keys 148 = .ok (.iconst 0, 1) := oc_3 (by decide +kernel)
theorem dX12_keys_149 : decode cX12_keys 149 = .ok (.ireturn, 1) := oc_172 (by decide +kernel)
theorem dX12_keys_15 : decode cX12_keys 15 = .ok (.aload_n 0, 1) := oc_42 (by decide +kernel)
theorem dX12_keys_16 : decode cX12_keys 16 = .ok (.getfield 143, 3) := oc_180 (a := 0) (b := 143) (by decide +kernel)
theorem dX12_keys_19 : decode cX12_keys 19 = .ok (.bipush 45, 2) := oc_16 (a := 45) (by decide +kernel)
theorem dX12_keys_21 : decode cX12_keys 21 = .ok (.if_icmp .ne 7, 3) := oc_160 (a := 0) (b := 7) (by decide +kernel)
theorem dX12_keys_28 : decode cX12_keys 28 = .ok (.iconst 0, 1) := oc_3 (by decide +kernel)
theorem dX12_keys_29 : decode cX12_keys 29 = .ok (.istore_n 3, 1) := oc_62 (by decide +kernel)
theorem dX12_keys_30 : decode cX12_keys 30 = .ok (.iload_n 3, 1) := oc_29 (by decide +kernel)
theorem dX12_keys_31 : decode cX12_keys 31 = .ok (.ifCond .ne 10, 3) := oc_154 (a := 0) (b := 10) (by decide +kernel)
theorem dX12_keys_34 : decode cX12_keys 34 = .ok (.aload_n 0, 1) := oc_42 (by decide +kernel)
theorem dX12_keys_35 : decode cX12_keys 35 = .ok (.invokevirtual 192, 3) := oc_182 (a := 0) (b := 192) (by decide +kernel)
theorem dX12_keys_38 : decode cX12_keys 38 = .ok (.ifCond .lt 17, 3) := oc_155 (a := 0) (b := 17) (by decide +kernel)
theorem dX12_keys_55 : decode cX12_keys 55 = .ok (.iload_n 3, 1) := oc_29 (by decide +kernel)
theorem dX12_keys_56 : decode cX12_keys 56 = .ok (.ifCond .eq 7, 3) := oc_153 (a := 0) (b := 7) (by decide +kernel)
theorem dX12_keys_63 : decode cX12_keys 63 = .ok (.aload_n 0, 1) := oc_42 (by decide +kernel)
theorem dX12_keys_64 : decode cX12_keys 64 = .ok (.invokevirtual 192, 3) := oc_182 (a := 0) (b := 192) (by decide +kernel)
theorem dX12_keys_67 : decode cX12_keys 67 = .ok (.ifCond .ge 5, 3) := oc_156 (a := 0) (b := 5) (by decide +kernel)
theorem dX12_keys_72 : decode cX12_keys 72 = .ok (.aload_n 0, 1) := oc_42 (by decide +kernel)
theorem dX12_keys_73 : decode cX12_keys 73 = .ok (.getfield 7, 3) := oc_180 (a := 0) (b := 7) (by decide +kernel)
theorem dX12_keys_76 : decode cX12_keys 76 = .ok (.iload_n 1, 1) := oc_27 (by decide +kernel)
theorem dX12_keys_77 : decode cX12_keys 77 = .ok (.iconst 5, 1) := oc_8 (by decide +kernel)
theorem dX12_keys_78 : decode cX12_keys 78 = .ok (.iadd, 1) := oc_96 (by decide +kernel)
theorem dX12_keys_79 : decode cX12_keys 79 = .ok (.aload_n 0, 1) := oc_42 (by decide +kernel)
theorem dX12_keys_80 : decode cX12_keys 80 = .ok (.getfield 7, 3) := oc_180 (a := 0) (b := 7) (by decide +kernel)
theorem dX12_keys_83 : decode cX12_keys 83 = .ok (.iload_n 1, 1) := oc_27 (by decide +kernel)
theorem dX12_keys_84 : decode cX12_keys 84 = .ok (.iconst 4, 1) := oc_7 (by decide +kernel)
theorem dX12_keys_85 : decode cX12_keys 85 = .ok (.iadd, 1) := oc_96 (by decide +kernel)
theorem dX12_keys_86 : decode cX12_keys 86 = .ok (.iaload, 1) := oc_46 (by decide +kernel)
theorem dX12_keys_87 : decode cX12_keys 87 = .ok (.iadd, 1) := oc_96 (by decide +kernel)
theorem dX12_keys_88 : decode cX12_keys 88 = .ok (.iload_n 3, 1) := oc_29 (by decide +kernel)
theorem dX12_keys_89 : decode cX12_keys 89 = .ok (.ifCond .eq 12, 3) := oc_153 (a := 0) (b := 12) (by decide +kernel)
theorem dX12_keys_101 : decode cX12_keys 101 = .ok (.aload_n 0, 1) := oc_42 (by decide +kernel)
theorem dX12_keys_102 : decode cX12_keys 102 = .ok (.invokevirtual 192, 3) := oc_182 (a := 0) (b := 192) (by decide +kernel)
theorem dX12_keys_105 : decode cX12_keys 105 = .ok (.iastore, 1) := oc_79 (by decide +kernel)
theorem dX12_keys_106 : decode cX12_keys 106 = .ok (.aload_n 0, 1) := oc_42 (by decide +kernel)
theorem dX12_keys_107 : decode cX12_keys 107 = .ok (.getfield 7, 3) := oc_180 (a := 0) (b := 7) (by decide +kernel)
theorem dX12_keys_110 : decode cX12_keys 110 = .ok (.iload_n 1, 1) := oc_27 (by decide +kernel)
theorem dX12_keys_111 : decode cX12_keys 111 = .ok (.iconst 4, 1) := oc_7 (by decide +kernel)
theorem dX12_keys_112 : decode cX12_keys 112 = .ok (.iadd, 1) := oc_96 (by decide +kernel)
theorem dX12_keys_113 : decode cX12_keys 113 = .ok (.dup2, 1) := oc_92 (by decide +kernel)
theorem dX12_keys_114 : decode cX12_keys 114 = .ok (.iaload, 1) := oc_46 (by decide +kernel)
theorem dX12_keys_115 : decode cX12_keys 115 = .ok (.iconst 1, 1) := oc_4 (by decide +kernel)
theorem dX12_keys_116 : decode cX12_keys 116 = .ok (.iadd, 1) := oc_96 (by decide +kernel)
theorem dX12_keys_117 : decode cX12_keys 117 = .ok (.iastore, 1) := oc_79 (by decide +kernel)
theorem dX12_keys_118 : decode cX12_keys 118 = .ok (.aload_n 0, 1) := oc_42 (by decide +kernel)
theorem dX12_keys_119 : decode cX12_keys 119 = .ok (.invokevirtual 196, 3) := oc_182 (a := 0) (b := 196) (by decide +kernel)
theorem dX12_keys_122 : decode cX12_keys 122 = .ok (.aload_n 0, 1) := oc_42 (by decide +kernel)
theorem dX12_keys_123 : decode cX12_keys 123 = .ok (.getfield 143, 3) := oc_180 (a := 0) (b := 143) (by decide +kernel)
theorem dX12_keys_126 : decode cX12_keys 126 = .ok (.bipush 44, 2) := oc_16 (a := 44) (by decide +kernel)
theorem dX12_keys_128 : decode cX12_keys 128 = .ok (.if_icmp .ne 7, 3) := oc_160 (a := 0) (b := 7) (by decide +kernel)
theorem dX12_keys_135 : decode cX12_keys 135 = .ok (.iconst 0, 1) := oc_3 (by decide +kernel)
theorem dX12_keys_136 : decode cX12_keys 136 = .ok (.istore_n 2, 1) := oc_61 (by decide +kernel)
theorem dX12_keys_137 : decode cX12_keys 137 = .ok (.iload_n 2, 1) := oc_28 (by decide +kernel)
theorem dX12_keys_138 : decode cX12_keys 138 = .ok (.ifCond .eq 7, 3) := oc_153 (a := 0) (b := 7) (by decide +kernel)
theorem dX12_keys_145 : decode cX12_keys 145 = .ok (.goto (-134), 3) := oc_167 (a := 255) (b := 122) (by decide +kernel)
theorem dX12_keys_131 : decode cX12_keys 131 = .ok (.iconst 1, 1) := oc_4 (by decide +kernel)
theorem dX12_keys_132 : decode cX12_keys 132 = .ok (.goto 4, 3) := oc_167 (a := 0) (b := 4) (by decide +kernel)
theorem dX12_keys_141 : decode cX12_keys 141 = .ok (.aload_n 0, 1) := oc_42 (by decide +kernel)
theorem dX12_keys_142 : decode cX12_keys 142 = .ok (.invokevirtual 196, 3) := oc_182 (a := 0) (b := 196) (by decide +kernel)
theorem dX12_keys_70 : decode cX12_keys 70 = .ok (.iconst 1, 1) := oc_4 (by decide +kernel)
theorem dX12_keys_71 : decode cX12_keys 71 = .ok (.ireturn, 1) := oc_172 (by decide +kernel)
theorem dX12_keys_41 : decode cX12_keys 41 = .ok (.aload_n 0, 1) := oc_42 (by decide +kernel)
theorem dX12_keys_42 : decode cX12_keys 42 = .ok (.getfield 7, 3) := oc_180 (a := 0) (b := 7) (by decide +kernel)
theorem dX12_keys_45 : decode cX12_keys 45 = .ok (.iload_n 1, 1) := oc_27 (by decide +kernel)
theorem dX12_keys_46 : decode cX12_keys 46 = .ok (.iconst 4, 1) := oc_7 (by decide +kernel)
theorem dX12_keys_47 : decode cX12_keys 47 = .ok (.iadd, 1) := oc_96 (by decide +kernel)
theorem dX12_keys_48 : decode cX12_keys 48 = .ok (.iaload, 1) := oc_46 (by decide +kernel)
theorem dX12_keys_49 : decode cX12_keys 49 = .ok (.iconst 4, 1) := oc_7 (by decide +kernel)
theorem dX12_keys_50 : decode cX12_keys 50 = .ok (.if_icmp .ne 5, 3) := oc_160 (a := 0) (b := 5) (by decide +kernel)
theorem dX12_keys_53 : decode cX12_keys 53 = .ok (.iconst 5, 1) := oc_8 (by decide +kernel)
theorem dX12_keys_54 : decode cX12_keys 54 = .ok (.ireturn, 1) := oc_172 (by decide +kernel)
theorem dX12_keys_24 : decode cX12_keys 24 = .ok (.iconst 1, 1) := oc_4 (by decide +kernel)
theorem dX12_keys_25 : decode cX12_keys 25 = .ok (.goto 4, 3) := oc_167 (a := 0) (b := 4) (by decide +kernel)
theorem dX12_keys_59 : decode cX12_keys 59 = .ok (.aload_n 0, 1) := oc_42 (by decide +kernel)
theorem dX12_keys_60 : decode cX12_keys 60 = .ok (.invokevirtual 196, 3) := oc_182 (a := 0) (b := 196) (by decide +kernel)
theorem dX12_keys_92 : decode cX12_keys 92 = .ok (.iconst (-1), 1) := oc_2 (by decide +kernel)
theorem dX12_keys_93 : decode cX12_keys 93 = .ok (.aload_n 0, 1) := oc_42 (by decide +kernel)
theorem dX12_keys_94 : decode cX12_keys 94 = .ok (.invokevirtual 192, 3) := oc_182 (a := 0) (b := 192) (by decide +kernel)
theorem dX12_keys_97 : decode cX12_keys 97 = .ok (.isub, 1) := oc_100 (by decide +kernel)
theorem dX12_keys_98 : decode cX12_keys 98 = .ok (.goto 7, 3) := oc_167 (a := 0) (b := 7) (by decide +kernel)
set_option maxRecDepth 100000 in
def g_X12_keys_L11 (a0 : Int32) (rj : Nat → Nat → Int64) (rq : Nat → Nat → Option Nat) : Nat → (Int32) → (Nat → Int32) → (Nat → Int64) → (Nat → Nat → Int32) → Int32 × vM
  | 0, x_1222, I_1223, J_1224, ri_1225 => ((0 : Int32), I_1223, J_1224, ri_1225, rj, rq)
  | n_1530 + 1, x_1222, I_1223, J_1224, ri_1225 => (if x_1222 = (0 : Int32) then ((0 : Int32), I_1223, J_1224, ri_1225, rj, rq) else (ap1 (I_1223 393) fun (y_1550 : Int32) => (if (y_1550) = (45 : Int32) then (ap1 (a0 + (4 : Int32)) fun (x_1763 : Int32) => (ap1 (ri_1225 384 (x_1763).toNatClampNeg) fun (x_1765 : Int32) => (if x_1765 = (4 : Int32) then ((5 : Int32), I_1223, J_1224, ri_1225, rj, rq) else (bnV (g_X12_nextToken_x I_1223 J_1224 ri_1225 rj rq) fun (I_1779 : Nat → Int32) (J_1780 : Nat → Int64) (_ : Nat → Nat → Int32) (_ : Nat → Nat → Int64) (_ : Nat → Nat → Option Nat) => (bnI (g_X12_nameOf_d I_1779 J_1780 ri_1225 rj rq) fun (x_1791 : Int32) (_ : Nat → Int32) (_ : Nat → Int64) (_ : Nat → Nat → Int32) (_ : Nat → Nat → Int64) (_ : Nat → Nat → Option Nat) => (if (0 : Int32) ≤ x_1791 then (ap1 (a0 + (5 : Int32)) fun (x_1806 : Int32) => (ap1 (a0 + (4 : Int32)) fun (x_1808 : Int32) => (ap1 (ri_1225 384 (x_1808).toNatClampNeg) fun (x_1810 : Int32) => (ap1 (x_1806 + x_1810) fun (x_1814 : Int32) => (bnI (g_X12_nameOf_d I_1779 J_1780 ri_1225 rj rq) fun (x_1817 : Int32) (_ : Nat → Int32) (_ : Nat → Int64) (_ : Nat → Nat → Int32) (_ : Nat → Nat → Int64) (_ : Nat → Nat → Option Nat) => (ap1 ((-1 : Int32) - x_1817) fun (x_1825 : Int32) => (ap1 (va_up ri_1225 384 (upd (ri_1225 384) (x_1814).toNatClampNeg x_1825)) fun (r_1827 : Nat → Nat → Int32) => (ap1 (a0 + (4 : Int32)) fun (x_1828 : Int32) => (ap1 (r_1827 384 (x_1828).toNatClampNeg) fun (x_1830 : Int32) => (ap1 (x_1830 + (1 : Int32)) fun (x_1833 : Int32) => (ap1 (va_up r_1827 384 (upd (r_1827 384) (x_1828).toNatClampNeg x_1833)) fun (r_1835 : Nat → Nat → Int32) => (bnV (g_X12_nextToken_x I_1779 J_1780 r_1835 rj rq) fun (I_1839 : Nat → Int32) (J_1840 : Nat → Int64) (_ : Nat → Nat → Int32) (_ : Nat → Nat → Int64) (_ : Nat → Nat → Option Nat) => (ap1 (I_1839 393) fun (y_1851 : Int32) => (if (y_1851) = (44 : Int32) then (bnV (g_X12_nextToken_x I_1839 J_1840 r_1835 rj rq) fun (I_1864 : Nat → Int32) (J_1865 : Nat → Int64) (_ : Nat → Nat → Int32) (_ : Nat → Nat → Int64) (_ : Nat → Nat → Option Nat) => ((g_X12_keys_L11 a0 rj rq n_1530) (1 : Int32) I_1864 J_1865 r_1835)) else ((g_X12_keys_L11 a0 rj rq n_1530) (0 : Int32) I_1839 J_1840 r_1835))))))))))))))) else ((1 : Int32), I_1779, J_1780, ri_1225, rj, rq))))))) else (bnI (g_X12_nameOf_d I_1223 J_1224 ri_1225 rj rq) fun (x_1557 : Int32) (_ : Nat → Int32) (_ : Nat → Int64) (_ : Nat → Nat → Int32) (_ : Nat → Nat → Int64) (_ : Nat → Nat → Option Nat) => (if x_1557 < (0 : Int32) then (bnI (g_X12_nameOf_d I_1223 J_1224 ri_1225 rj rq) fun (x_1573 : Int32) (_ : Nat → Int32) (_ : Nat → Int64) (_ : Nat → Nat → Int32) (_ : Nat → Nat → Int64) (_ : Nat → Nat → Option Nat) => (if (0 : Int32) ≤ x_1573 then (ap1 (a0 + (5 : Int32)) fun (x_1588 : Int32) => (ap1 (a0 + (4 : Int32)) fun (x_1590 : Int32) => (ap1 (ri_1225 384 (x_1590).toNatClampNeg) fun (x_1592 : Int32) => (ap1 (x_1588 + x_1592) fun (x_1595 : Int32) => (bnI (g_X12_nameOf_d I_1223 J_1224 ri_1225 rj rq) fun (x_1598 : Int32) (_ : Nat → Int32) (_ : Nat → Int64) (_ : Nat → Nat → Int32) (_ : Nat → Nat → Int64) (_ : Nat → Nat → Option Nat) => (ap1 (va_up ri_1225 384 (upd (ri_1225 384) (x_1595).toNatClampNeg x_1598)) fun (r_1606 : Nat → Nat → Int32) => (ap1 (a0 + (4 : Int32)) fun (x_1607 : Int32) => (ap1 (r_1606 384 (x_1607).toNatClampNeg) fun (x_1609 : Int32) => (ap1 (x_1609 + (1 : Int32)) fun (x_1612 : Int32) => (ap1 (va_up r_1606 384 (upd (r_1606 384) (x_1607).toNatClampNeg x_1612)) fun (r_1614 : Nat → Nat → Int32) => (bnV (g_X12_nextToken_x I_1223 J_1224 r_1614 rj rq) fun (I_1619 : Nat → Int32) (J_1620 : Nat → Int64) (_ : Nat → Nat → Int32) (_ : Nat → Nat → Int64) (_ : Nat → Nat → Option Nat) => (ap1 (I_1619 393) fun (y_1631 : Int32) => (if (y_1631) = (44 : Int32) then (bnV (g_X12_nextToken_x I_1619 J_1620 r_1614 rj rq) fun (I_1644 : Nat → Int32) (J_1645 : Nat → Int64) (_ : Nat → Nat → Int32) (_ : Nat → Nat → Int64) (_ : Nat → Nat → Option Nat) => ((g_X12_keys_L11 a0 rj rq n_1530) (1 : Int32) I_1644 J_1645 r_1614)) else ((g_X12_keys_L11 a0 rj rq n_1530) (0 : Int32) I_1619 J_1620 r_1614)))))))))))))) else ((1 : Int32), I_1223, J_1224, ri_1225, rj, rq))) else (ap1 (a0 + (4 : Int32)) fun (x_1660 : Int32) => (ap1 (ri_1225 384 (x_1660).toNatClampNeg) fun (x_1662 : Int32) => (if x_1662 = (4 : Int32) then ((5 : Int32), I_1223, J_1224, ri_1225, rj, rq) else (bnI (g_X12_nameOf_d I_1223 J_1224 ri_1225 rj rq) fun (x_1672 : Int32) (_ : Nat → Int32) (_ : Nat → Int64) (_ : Nat → Nat → Int32) (_ : Nat → Nat → Int64) (_ : Nat → Nat → Option Nat) => (if (0 : Int32) ≤ x_1672 then (ap1 (a0 + (5 : Int32)) fun (x_1687 : Int32) => (ap1 (a0 + (4 : Int32)) fun (x_1689 : Int32) => (ap1 (ri_1225 384 (x_1689).toNatClampNeg) fun (x_1691 : Int32) => (ap1 (x_1687 + x_1691) fun (x_1695 : Int32) => (bnI (g_X12_nameOf_d I_1223 J_1224 ri_1225 rj rq) fun (x_1698 : Int32) (_ : Nat → Int32) (_ : Nat → Int64) (_ : Nat → Nat → Int32) (_ : Nat → Nat → Int64) (_ : Nat → Nat → Option Nat) => (ap1 (va_up ri_1225 384 (upd (ri_1225 384) (x_1695).toNatClampNeg x_1698)) fun (r_1706 : Nat → Nat → Int32) => (ap1 (a0 + (4 : Int32)) fun (x_1707 : Int32) => (ap1 (r_1706 384 (x_1707).toNatClampNeg) fun (x_1709 : Int32) => (ap1 (x_1709 + (1 : Int32)) fun (x_1712 : Int32) => (ap1 (va_up r_1706 384 (upd (r_1706 384) (x_1707).toNatClampNeg x_1712)) fun (r_1714 : Nat → Nat → Int32) => (bnV (g_X12_nextToken_x I_1223 J_1224 r_1714 rj rq) fun (I_1719 : Nat → Int32) (J_1720 : Nat → Int64) (_ : Nat → Nat → Int32) (_ : Nat → Nat → Int64) (_ : Nat → Nat → Option Nat) => (ap1 (I_1719 393) fun (y_1731 : Int32) => (if (y_1731) = (44 : Int32) then (bnV (g_X12_nextToken_x I_1719 J_1720 r_1714 rj rq) fun (I_1744 : Nat → Int32) (J_1745 : Nat → Int64) (_ : Nat → Nat → Int32) (_ : Nat → Nat → Int64) (_ : Nat → Nat → Option Nat) => ((g_X12_keys_L11 a0 rj rq n_1530) (1 : Int32) I_1744 J_1745 r_1714)) else ((g_X12_keys_L11 a0 rj rq n_1530) (0 : Int32) I_1719 J_1720 r_1714)))))))))))))) else ((1 : Int32), I_1223, J_1224, ri_1225, rj, rq)))))))))))
set_option maxRecDepth 100000 in
theorem g_X12_keys_L11_e {a0 : Int32} {rj : Nat → Nat → Int64} {rq : Nat → Nat → Option Nat} {n_1530 : Nat} {x_1222 : Int32} {I_1223 : Nat → Int32} {J_1224 : Nat → Int64} {ri_1225 : Nat → Nat → Int32} : g_X12_keys_L11 a0 rj rq (n_1530 + 1) x_1222 I_1223 J_1224 ri_1225 = (if x_1222 = (0 : Int32) then ((0 : Int32), I_1223, J_1224, ri_1225, rj, rq) else (ap1 (I_1223 393) fun (y_1550 : Int32) => (if (y_1550) = (45 : Int32) then (ap1 (a0 + (4 : Int32)) fun (x_1763 : Int32) => (ap1 (ri_1225 384 (x_1763).toNatClampNeg) fun (x_1765 : Int32) => (if x_1765 = (4 : Int32) then ((5 : Int32), I_1223, J_1224, ri_1225, rj, rq) else (bnV (g_X12_nextToken_x I_1223 J_1224 ri_1225 rj rq) fun (I_1779 : Nat → Int32) (J_1780 : Nat → Int64) (_ : Nat → Nat → Int32) (_ : Nat → Nat → Int64) (_ : Nat → Nat → Option Nat) => (bnI (g_X12_nameOf_d I_1779 J_1780 ri_1225 rj rq) fun (x_1791 : Int32) (_ : Nat → Int32) (_ : Nat → Int64) (_ : Nat → Nat → Int32) (_ : Nat → Nat → Int64) (_ : Nat → Nat → Option Nat) => (if (0 : Int32) ≤ x_1791 then (ap1 (a0 + (5 : Int32)) fun (x_1806 : Int32) => (ap1 (a0 + (4 : Int32)) fun (x_1808 : Int32) => (ap1 (ri_1225 384 (x_1808).toNatClampNeg) fun (x_1810 : Int32) => (ap1 (x_1806 + x_1810) fun (x_1814 : Int32) => (bnI (g_X12_nameOf_d I_1779 J_1780 ri_1225 rj rq) fun (x_1817 : Int32) (_ : Nat → Int32) (_ : Nat → Int64) (_ : Nat → Nat → Int32) (_ : Nat → Nat → Int64) (_ : Nat → Nat → Option Nat) => (ap1 ((-1 : Int32) - x_1817) fun (x_1825 : Int32) => (ap1 (va_up ri_1225 384 (upd (ri_1225 384) (x_1814).toNatClampNeg x_1825)) fun (r_1827 : Nat → Nat → Int32) => (ap1 (a0 + (4 : Int32)) fun (x_1828 : Int32) => (ap1 (r_1827 384 (x_1828).toNatClampNeg) fun (x_1830 : Int32) => (ap1 (x_1830 + (1 : Int32)) fun (x_1833 : Int32) => (ap1 (va_up r_1827 384 (upd (r_1827 384) (x_1828).toNatClampNeg x_1833)) fun (r_1835 : Nat → Nat → Int32) => (bnV (g_X12_nextToken_x I_1779 J_1780 r_1835 rj rq) fun (I_1839 : Nat → Int32) (J_1840 : Nat → Int64) (_ : Nat → Nat → Int32) (_ : Nat → Nat → Int64) (_ : Nat → Nat → Option Nat) => (ap1 (I_1839 393) fun (y_1851 : Int32) => (if (y_1851) = (44 : Int32) then (bnV (g_X12_nextToken_x I_1839 J_1840 r_1835 rj rq) fun (I_1864 : Nat → Int32) (J_1865 : Nat → Int64) (_ : Nat → Nat → Int32) (_ : Nat → Nat → Int64) (_ : Nat → Nat → Option Nat) => ((g_X12_keys_L11 a0 rj rq n_1530) (1 : Int32) I_1864 J_1865 r_1835)) else ((g_X12_keys_L11 a0 rj rq n_1530) (0 : Int32) I_1839 J_1840 r_1835))))))))))))))) else ((1 : Int32), I_1779, J_1780, ri_1225, rj, rq))))))) else (bnI (g_X12_nameOf_d I_1223 J_1224 ri_1225 rj rq) fun (x_1557 : Int32) (_ : Nat → Int32) (_ : Nat → Int64) (_ : Nat → Nat → Int32) (_ : Nat → Nat → Int64) (_ : Nat → Nat → Option Nat) => (if x_1557 < (0 : Int32) then (bnI (g_X12_nameOf_d I_1223 J_1224 ri_1225 rj rq) fun (x_1573 : Int32) (_ : Nat → Int32) (_ : Nat → Int64) (_ : Nat → Nat → Int32) (_ : Nat → Nat → Int64) (_ : Nat → Nat → Option Nat) => (if (0 : Int32) ≤ x_1573 then (ap1 (a0 + (5 : Int32)) fun (x_1588 : Int32) => (ap1 (a0 + (4 : Int32)) fun (x_1590 : Int32) => (ap1 (ri_1225 384 (x_1590).toNatClampNeg) fun (x_1592 : Int32) => (ap1 (x_1588 + x_1592) fun (x_1595 : Int32) => (bnI (g_X12_nameOf_d I_1223 J_1224 ri_1225 rj rq) fun (x_1598 : Int32) (_ : Nat → Int32) (_ : Nat → Int64) (_ : Nat → Nat → Int32) (_ : Nat → Nat → Int64) (_ : Nat → Nat → Option Nat) => (ap1 (va_up ri_1225 384 (upd (ri_1225 384) (x_1595).toNatClampNeg x_1598)) fun (r_1606 : Nat → Nat → Int32) => (ap1 (a0 + (4 : Int32)) fun (x_1607 : Int32) => (ap1 (r_1606 384 (x_1607).toNatClampNeg) fun (x_1609 : Int32) => (ap1 (x_1609 + (1 : Int32)) fun (x_1612 : Int32) => (ap1 (va_up r_1606 384 (upd (r_1606 384) (x_1607).toNatClampNeg x_1612)) fun (r_1614 : Nat → Nat → Int32) => (bnV (g_X12_nextToken_x I_1223 J_1224 r_1614 rj rq) fun (I_1619 : Nat → Int32) (J_1620 : Nat → Int64) (_ : Nat → Nat → Int32) (_ : Nat → Nat → Int64) (_ : Nat → Nat → Option Nat) => (ap1 (I_1619 393) fun (y_1631 : Int32) => (if (y_1631) = (44 : Int32) then (bnV (g_X12_nextToken_x I_1619 J_1620 r_1614 rj rq) fun (I_1644 : Nat → Int32) (J_1645 : Nat → Int64) (_ : Nat → Nat → Int32) (_ : Nat → Nat → Int64) (_ : Nat → Nat → Option Nat) => ((g_X12_keys_L11 a0 rj rq n_1530) (1 : Int32) I_1644 J_1645 r_1614)) else ((g_X12_keys_L11 a0 rj rq n_1530) (0 : Int32) I_1619 J_1620 r_1614)))))))))))))) else ((1 : Int32), I_1223, J_1224, ri_1225, rj, rq))) else (ap1 (a0 + (4 : Int32)) fun (x_1660 : Int32) => (ap1 (ri_1225 384 (x_1660).toNatClampNeg) fun (x_1662 : Int32) => (if x_1662 = (4 : Int32) then ((5 : Int32), I_1223, J_1224, ri_1225, rj, rq) else (bnI (g_X12_nameOf_d I_1223 J_1224 ri_1225 rj rq) fun (x_1672 : Int32) (_ : Nat → Int32) (_ : Nat → Int64) (_ : Nat → Nat → Int32) (_ : Nat → Nat → Int64) (_ : Nat → Nat → Option Nat) => (if (0 : Int32) ≤ x_1672 then (ap1 (a0 + (5 : Int32)) fun (x_1687 : Int32) => (ap1 (a0 + (4 : Int32)) fun (x_1689 : Int32) => (ap1 (ri_1225 384 (x_1689).toNatClampNeg) fun (x_1691 : Int32) => (ap1 (x_1687 + x_1691) fun (x_1695 : Int32) => (bnI (g_X12_nameOf_d I_1223 J_1224 ri_1225 rj rq) fun (x_1698 : Int32) (_ : Nat → Int32) (_ : Nat → Int64) (_ : Nat → Nat → Int32) (_ : Nat → Nat → Int64) (_ : Nat → Nat → Option Nat) => (ap1 (va_up ri_1225 384 (upd (ri_1225 384) (x_1695).toNatClampNeg x_1698)) fun (r_1706 : Nat → Nat → Int32) => (ap1 (a0 + (4 : Int32)) fun (x_1707 : Int32) => (ap1 (r_1706 384 (x_1707).toNatClampNeg) fun (x_1709 : Int32) => (ap1 (x_1709 + (1 : Int32)) fun (x_1712 : Int32) => (ap1 (va_up r_1706 384 (upd (r_1706 384) (x_1707).toNatClampNeg x_1712)) fun (r_1714 : Nat → Nat → Int32) => (bnV (g_X12_nextToken_x I_1223 J_1224 r_1714 rj rq) fun (I_1719 : Nat → Int32) (J_1720 : Nat → Int64) (_ : Nat → Nat → Int32) (_ : Nat → Nat → Int64) (_ : Nat → Nat → Option Nat) => (ap1 (I_1719 393) fun (y_1731 : Int32) => (if (y_1731) = (44 : Int32) then (bnV (g_X12_nextToken_x I_1719 J_1720 r_1714 rj rq) fun (I_1744 : Nat → Int32) (J_1745 : Nat → Int64) (_ : Nat → Nat → Int32) (_ : Nat → Nat → Int64) (_ : Nat → Nat → Option Nat) => ((g_X12_keys_L11 a0 rj rq n_1530) (1 : Int32) I_1744 J_1745 r_1714)) else ((g_X12_keys_L11 a0 rj rq n_1530) (0 : Int32) I_1719 J_1720 r_1714)))))))))))))) else ((1 : Int32), I_1223, J_1224, ri_1225, rj, rq))))))))))) := rfl
set_option maxRecDepth 100000 in
def g_X12_keys (a0 : Int32) (I : Nat → Int32) (J : Nat → Int64) (ri : Nat → Nat → Int32) (rj : Nat → Nat → Int64) (rq : Nat → Nat → Option Nat) : Int32 × vM := (ap1 (a0 + (4 : Int32)) fun (x_2 : Int32) => (ap1 (va_up ri 384 (upd (ri 384) (x_2).toNatClampNeg (0 : Int32))) fun (r_4 : Nat → Nat → Int32) => (ap1 (I 391) fun (y_1880 : Int32) => (ap1 (I 393) fun (y_1881 : Int32) => (g_X12_keys_L11 a0 rj rq ((tmM (y_1880).toInt (y_1881).toInt).toNat + 1) (1 : Int32) I J r_4)))))
set_option maxRecDepth 100000 in
theorem g_X12_keys_e {a0 : Int32} {I : Nat → Int32} {J : Nat → Int64} {ri : Nat → Nat → Int32} {rj : Nat → Nat → Int64} {rq : Nat → Nat → Option Nat} : g_X12_keys a0 I J ri rj rq = (ap1 (a0 + (4 : Int32)) fun (x_2 : Int32) => (ap1 (va_up ri 384 (upd (ri 384) (x_2).toNatClampNeg (0 : Int32))) fun (r_4 : Nat → Nat → Int32) => (ap1 (I 391) fun (y_1880 : Int32) => (ap1 (I 393) fun (y_1881 : Int32) => (g_X12_keys_L11 a0 rj rq ((tmM (y_1880).toInt (y_1881).toInt).toNat + 1) (1 : Int32) I J r_4))))) := rfl
set_option maxHeartbeats 4000000 in
set_option maxRecDepth 100000 in
theorem s_X12_keys (l : Launch) (D : va_G) (t : pq_T) (σ : pq_S) (I : Nat → Nat → Int32) (J : Nat → Nat → Int64) (ri : Nat → Nat → Int32) (rj : Nat → Nat → Int64) (rq : Nat → Nat → Option Nat) (sz : Nat) (tg : Nat → Nat) (hSH : SH σ tg) (hG0 : GT tg I ri) (this : Nat) (a0 : Int32) (hL_this : this ∈ σ.1) (hK_this : σ.2.1 this = 12) (this_a : Nat) (hR_this_a : σ.2.2.1 384 this = some this_a) (hL_this_a : this_a ∈ σ.1) (hK_this_a : σ.2.1 this_a = 13) (hN_this_a : σ.2.2.2 this_a = 12720) (hT_this_a : tg this_a = 384) (hc : a0.toInt = 3721 + 900 * (ri this_a 6).toInt + 12 * (I 397 this).toInt ∧ 0 ≤ (I 397 this).toInt ∧ (I 397 this).toInt ≤ 19 ∧ 0 ≤ (ri this_a 6).toInt ∧ (ri this_a 6).toInt ≤ 9) : MetI l yX12_keys (wa yX12_keys cX12_keys 4 (some .int)) ({ frames := 4, cells := 0, slots := 0, locals := 89 }) [.ref this, .int a0] D t σ (I, J, ri, rj, rq) sz 0 0 (fun (r : Int32) (u : pq_S × pq_M) => ∃ I' : Nat → Nat → Int32, ∃ J' : Nat → Nat → Int64, ∃ ri' : Nat → Nat → Int32, u = (σ, I', J', ri', rj, rq) ∧ GM [391, 392, 393] tg σ I ri I' ri' rq ∧ ((I 391 this).toInt ≤ (I' 391 this).toInt) ∧ (∀ j : Nat, (j : Int) < a0.toInt + 4 ∨ a0.toInt + 12 ≤ (j : Int) → ri' this_a j = ri this_a j) ∧ (tmM (I' 391 this).toInt (I' 393 this).toInt ≤ tmM (I 391 this).toInt (I 393 this).toInt) ∧ g_X12_keys a0 (vI 12 σ this I) (vJ 12 σ this J) (vR 12 σ this ri) (vL 12 σ this rj) (vQ 12 σ this rq) = (r, (vI 12 σ this I'), (vJ 12 σ this J'), (vR 12 σ this ri'), (vL 12 σ this rj), (vQ 12 σ this rq)) ∧ FR 12 tg σ this (I, J, ri, rj, rq) (I', J', ri', rj, rq) ∧ rg r 0 5) := by
  refine Met.ofW (cc := cX12_keys) (maxL := 4) (ret := (some .int)) (by decide +kernel) rfl ?_
  intro p e s m args below meth c s₁ B hml hv
  obtain ⟨rfl, hsz, hP, hK, hD0, hN⟩ := hv
  have hx := B.exec
  have hb := B.bytes
  have hr := B.returns
  have hts := atoms_spec (ws := (wa yX12_keys cX12_keys 4 (some .int))) B.pre
  have hown : s.vm.findClass RX12 = some m.cls := findClass_of_methodNamed B.named
  have hlocks := B.notSynchronized
  subst hsz
  have hD : va_D (pq_B t σ (I, J, ri, rj, rq) s.heap.size) (pq_P t σ (I, J, ri, rj, rq)) := hD0.self
  generalize hAe : pq_B t σ (I, J, ri, rj, rq) s.heap.size = A at hD ⊢
  have hA : ∀ q : Nat, s.heap.size ≤ q → A q := fun q h => by rw [← hAe]; exact Or.inr h
  have hS : va_S A s.heap s.heap [] := va_S.rf
  have hG : GM [391, 392, 393] tg σ I ri I ri rq := ⟨hG0, fun _ _ _ => rfl, fun _ _ _ _ _ => rfl, fun _ _ _ _ _ _ => rfl⟩
  have hl := lv_entry ([.ref this, .int a0]) (n := 4) (Nat.le_of_ble_eq_true rfl)
  rw [lg_entry_eq]
  generalize (lg_sl ([.ref this, .int a0]) ++ List.replicate (4 - (lg_sl ([.ref this, .int a0])).length) Slot.unset).toArray = ls at hl ⊢
  have hl : lv_has ls 4 [(0, .ref this), (1, .int a0)] := hl
  refine q_gen (fun Q hQ => ?_)
  have go : ∀ (H : Heap) (locs : List Loc) (ls : Array Slot), va_P D vwCl (pq_P t σ (I, J, ri, rj, rq)) H → va_D A (pq_P t σ (I, J, ri, rj, rq)) → va_S A s.heap H locs → lv_has ls 4 [(0, .ref this), (1, .int a0)] → W p l e ({ frames := 4, cells := 0, slots := 0, locals := 89 } : Room) s m (List.toArray ([.ref this, .int a0] : List Value)) below meth c H locs 0 0 Q (F0 m 0 ls []) := by
    intro H locs ls hP hD hS hl
    have hO_this : this = vo σ 12 this := rfl
    have hVT : VT 12 σ tg this := vt_12 hSH hL_this hK_this
    have hFr : FR 12 tg σ this (I, J, ri, rj, rq) (I, J, ri, rj, rq) := fr_rf
    have hO_this_a : this_a = vrow σ 384 this := vo_k (c := 12) hO_this hR_this_a
    obtain ⟨F, hF0⟩ : ∃ F, F = g_X12_keys a0 (vI 12 σ this I) (vJ 12 σ this J) (vR 12 σ this ri) (vL 12 σ this rj) (vQ 12 σ this rq) := ⟨_, rfl⟩
    have hF := hF0.trans g_X12_keys_e
    have ce6 := clampE (ri this_a 6)
    have ceC := clampE (I 397 this)
    have ceA := clampE a0
    have h_1 : rg a0 3721 12049 := ⟨by omega, by omega⟩
    have uh_1 := h_1.1
    have vh_1 := h_1.2
    refine lv_aload_n hx hb dX12_keys_0 rfl (lv_at hl 0 rfl) ?_
    refine pg_f (v := .ref this_a) (C := RX12) (T := TX12) (N := 31) hx hb hts (tw_i inlX12) hown hK hP hL_this hK_this (by decide +kernel) rfl 0 (by decide +kernel) (hts _ (tw_c tw_176)) (pq_hv rfl hR_this_a) dX12_keys_1 ?_
    refine lv_iload_n hx hb dX12_keys_4 rfl (lv_at hl 1 rfl) ?_
    refine lv_iconst (v := 4) hx hb dX12_keys_5 (by decide +kernel) ?_
    refine lv_iadd hx hb dX12_keys_6 ?_
    refine lv_topi (fun x_2 ex_2 => ?_)
    replace hF := hF.trans (ap_n ex_2)
    have h_3 : rg x_2 3725 12053 := rg_of_eq ex_2 (rg_add h_1 (rg_k (4 : Int32) 4 rfl) (by decide +kernel))
    have uh_3 := h_3.1
    have vh_3 := h_3.2
    have tx_2 : (x_2).toInt = (a0).toInt + 4 := by rw [ex_2]; exact i_add_rg (a2 := (a0).toInt) (b2 := 4) rfl rfl h_1 (rg_k (4 : Int32) 4 rfl) (by decide +kernel)
    refine lv_iconst (v := 0) hx hb dX12_keys_7 (by decide +kernel) ?_
    refine pt_i hx hb hK hP hD hS hL_this_a hK_this_a hN_this_a (rg_in h_3 (by decide +kernel)) dX12_keys_8 (fun r_4 H locs er_4 hP hD hS => ?_)
    replace hFr := fr_R hFr hO_this_a (by decide +kernel) er_4
    replace hF := hF.trans (ap_n (vR_st hVT hO_this_a (by decide +kernel) er_4))
    have hG := GM.wt hG hT_this_a (by decide +kernel) er_4 (zn_tc (t := (ri this_a 6).toNatClampNeg) (c := (I 397 this).toNatClampNeg) (k := 4) (by have z_i := clampE x_2; have z_0 := clampE (ri this_a 6); have z_1 := clampE (I 397 this); omega) (rg_cl1 ⟨hc.2.2.2.1, hc.2.2.2.2⟩ (by decide +kernel)) (rg_cl1 ⟨hc.2.1, hc.2.2.1⟩ (by decide +kernel)) (by decide +kernel)) rfl (rg_w (rg_k (0 : Int32) 0 rfl) (by decide +kernel)) (by have z6 := congrArg Int32.toInt (hG.2.2.1 this_a hT_this_a 6 (by decide +kernel) (by decide +kernel)); have z_i := clampE x_2; omega) (by decide +kernel)
    refine lv_iconst (v := 1) hx hb dX12_keys_9 (by decide +kernel) ?_
    refine lv_istore_n (lv' := [(2, .int 1), (0, .ref this), (1, .int a0)]) hx hb dX12_keys_10 rfl hl (by decide +kernel) rfl (fun ls hl => ?_)
    have L_1531 : ∀ (n_1530 : Nat) (x_1222 : Int32) (I_1223 : Nat → Nat → Int32) (J_1224 : Nat → Nat → Int64) (ri_1225 : Nat → Nat → Int32) (H : Heap) (locs : List Loc) (ls : Array Slot), rg x_1222 0 1 → ((I 391 this).toInt ≤ (I_1223 391 this).toInt) → (∀ j : Nat, (j : Int) < a0.toInt + 4 ∨ a0.toInt + 12 ≤ (j : Int) → ri_1225 this_a j = ri this_a j) → (tmM (I_1223 391 this).toInt (I_1223 393 this).toInt ≤ tmM (I 391 this).toInt (I 393 this).toInt) → (tmM (I_1223 391 this).toInt (I_1223 393 this).toInt).toNat < n_1530 → F = g_X12_keys_L11 a0 (vL 12 σ this rj) (vQ 12 σ this rq) n_1530 x_1222 (vI 12 σ this I_1223) (vJ 12 σ this J_1224) (vR 12 σ this ri_1225) → FR 12 tg σ this (I, J, ri, rj, rq) (I_1223, J_1224, ri_1225, rj, rq) → GM [391, 392, 393] tg σ I ri I_1223 ri_1225 rq → va_P D vwCl (pq_P t σ (I_1223, J_1224, ri_1225, rj, rq)) H → va_D A (pq_P t σ (I_1223, J_1224, ri_1225, rj, rq)) → va_S A s.heap H locs → lv_has ls 4 [(0, .ref this), (1, .int a0), (2, .int x_1222)] → W p l e ({ frames := 4, cells := 0, slots := 0, locals := 89 } : Room) s m (List.toArray ([.ref this, .int a0] : List Value)) below meth c H locs 0 0 Q (F0 m 11 ls []) := by
      intro n_1530
      induction n_1530 with
      | zero => intro x_1222 I_1223 J_1224 ri_1225 H locs ls h_1537 hrel_1538 hrel_1539 hrel_1540 hm_1529 hF hFr hG hP hD hS hl; exact absurd hm_1529 (Nat.not_lt_zero _)
      | succ n_1530 ih_1532 =>
        intro x_1222 I_1223 J_1224 ri_1225 H locs ls h_1537 hrel_1538 hrel_1539 hrel_1540 hm_1529 hF hFr hG hP hD hS hl
        have uh_1537 := h_1537.1
        have vh_1537 := h_1537.2
        replace hF := hF.trans g_X12_keys_L11_e
        refine lv_iload_n hx hb dX12_keys_11 rfl (lv_at hl 2 rfl) ?_
        refine lv_if_eq (tgt := 148) hx hb dX12_keys_12 (by decide +kernel) (fun c_1541 => ?_) (fun c_1541 => ?_)
        · replace hF := hF.trans (if_pos c_1541)
          have tc_1546 : (x_1222).toInt = 0 := congrArg Int32.toInt c_1541
          have h_1547 : rg x_1222 0 0 := rg_and h_1537 (rg_of_eq c_1541 (rg_k (0 : Int32) 0 rfl)) (by decide +kernel)
          have uh_1547 := h_1547.1
          have vh_1547 := h_1547.2
          refine lv_iconst (v := 0) hx hb dX12_keys_148 (by decide +kernel) ?_
          subst hQ
          exact W.iret (v := 0) hx hb hr (fun t1 ht hW => ⟨⟨0, (σ, I_1223, J_1224, ri_1225, rj, rq), rfl, ⟨I_1223, J_1224, ri_1225, rfl, hG, (by omega), hrel_1539, hrel_1540, (hF0.symm.trans hF), hFr, (rg_w (rg_k (0 : Int32) 0 rfl) (by decide +kernel))⟩, by rw [ht]; exact hP, va_K.moved hW.alike hK, hD⟩, hS.F ht⟩) hS.2.2 dX12_keys_149
        · replace hF := hF.trans (if_neg c_1541)
          have tc_1548 : (x_1222).toInt ≠ 0 := fun q => c_1541 (Int32.toInt_inj.mp q)
          have h_1549 : rg x_1222 1 1 := rg_ne c_1541 h_1537 0 rfl (by decide +kernel)
          have uh_1549 := h_1549.1
          have vh_1549 := h_1549.2
          refine lv_aload_n hx hb dX12_keys_15 rfl (lv_at hl 0 rfl) ?_
          refine pg_f (v := .int (I_1223 393 this)) (C := RX12) (T := TX12) (N := 31) hx hb hts (tw_i inlX12) hown hK hP hL_this hK_this (by decide +kernel) rfl 9 (by decide +kernel) (hts _ (tw_c tw_831)) rfl dX12_keys_16 ?_
          replace hF := hF.trans (ap_n (vI_e (f := 393) hO_this (by decide +kernel)))
          refine lv_bipush (v := 45) hx hb dX12_keys_19 (by decide +kernel) ?_
          refine lv_icmp_ne (tgt := 28) hx hb dX12_keys_21 (by decide +kernel) (fun c_1551 => ?_) (fun c_1551 => ?_)
          · replace hF := hF.trans (if_neg c_1551)
            have tc_1555 : (I_1223 393 this).toInt ≠ 45 := fun q => c_1551 (Int32.toInt_inj.mp q)
            refine lv_iconst (v := 0) hx hb dX12_keys_28 (by decide +kernel) ?_
            refine lv_istore_n (lv' := [(3, .int 0), (0, .ref this), (1, .int a0), (2, .int x_1222)]) hx hb dX12_keys_29 rfl hl (by decide +kernel) rfl (fun ls hl => ?_)
            refine lv_iload_n hx hb dX12_keys_30 rfl (lv_at hl 0 rfl) ?_
            refine lv_if_ne (tgt := 41) hx hb dX12_keys_31 (by decide +kernel) (fun c_1556 => absurd c_1556 (by decide +kernel)) (fun c_1556 => ?_)
            refine lv_aload_n hx hb dX12_keys_34 rfl (lv_at hl 1 rfl) ?_
            refine pk_i (va_runV (As := []) (rest := []) ⟨hx, hb, hml, hown, hts⟩ (s_X12_nameOf_d l D t σ I_1223 J_1224 ri_1225 rj rq H.size tg hSH hG.1 this hL_this hK_this) (cwV 0 hts (tw_V tw_921 tw_922 tw_923 tw_5 tw_924) rfl rfl rfl cv_yX12_nameOf_0 ⟨Nat.le_of_ble_eq_true rfl, Nat.le_of_ble_eq_true rfl⟩) ⟨pq_blind, pq_recv hK hP hL_this hK_this (by decide +kernel) rfl, pq_pre hK hN hP hD⟩ rfl rfl hl.1 rfl (lv_room (Nat.le_of_ble_eq_true rfl)) dX12_keys_35 ⟨Nat.le_of_ble_eq_true rfl, Nat.le_of_ble_eq_true rfl⟩) hD hS hA (fun x_1557 σ1 μ1 H locs hw_1558 hP hD hS => ?_)
            obtain ⟨hu_1559, hp_1562, hfn_1563, hr_1561⟩ := hw_1558
            obtain ⟨hu_1559a, hu_1559b⟩ := Prod.mk.inj hu_1559
            rw [hu_1559a, hu_1559b] at hP hD
            replace hF := hF.trans (bn_n hfn_1563)
            refine lv_if_lt (tgt := 55) hx hb dX12_keys_38 (by decide +kernel) (fun c_1565 => ?_) (fun c_1565 => ?_)
            · replace hF := hF.trans (if_pos c_1565)
              have tc_1570 : (x_1557).toInt < 0 := Int32.lt_iff_toInt_lt.mp c_1565
              have h_1571 : rg x_1557 (-1) (-1) := rg_lt1 c_1565 hr_1561 (rg_k (0 : Int32) 0 rfl) (by decide +kernel)
              have uh_1571 := h_1571.1
              have vh_1571 := h_1571.2
              refine lv_iload_n hx hb dX12_keys_55 rfl (lv_at hl 0 rfl) ?_
              refine lv_if_eq (tgt := 63) hx hb dX12_keys_56 (by decide +kernel) (fun c_1572 => ?_) (fun c_1572 => absurd c_1572 (by decide +kernel))
              refine lv_aload_n hx hb dX12_keys_63 rfl (lv_at hl 1 rfl) ?_
              refine pk_i (va_runV (As := []) (rest := []) ⟨hx, hb, hml, hown, hts⟩ (s_X12_nameOf_d l D t σ I_1223 J_1224 ri_1225 rj rq H.size tg hSH hG.1 this hL_this hK_this) (cwV 0 hts (tw_V tw_921 tw_922 tw_923 tw_5 tw_924) rfl rfl rfl cv_yX12_nameOf_0 ⟨Nat.le_of_ble_eq_true rfl, Nat.le_of_ble_eq_true rfl⟩) ⟨pq_blind, pq_recv hK hP hL_this hK_this (by decide +kernel) rfl, pq_pre hK hN hP hD⟩ rfl rfl hl.1 rfl (lv_room (Nat.le_of_ble_eq_true rfl)) dX12_keys_64 ⟨Nat.le_of_ble_eq_true rfl, Nat.le_of_ble_eq_true rfl⟩) hD hS hA (fun x_1573 σ1 μ1 H locs hw_1574 hP hD hS => ?_)
              obtain ⟨hu_1575, hp_1578, hfn_1579, hr_1577⟩ := hw_1574
              obtain ⟨hu_1575a, hu_1575b⟩ := Prod.mk.inj hu_1575
              rw [hu_1575a, hu_1575b] at hP hD
              replace hF := hF.trans (bn_n hfn_1579)
              refine lv_if_ge (tgt := 72) hx hb dX12_keys_67 (by decide +kernel) (fun c_1581 => ?_) (fun c_1581 => ?_)
              · replace hF := hF.trans (if_pos c_1581)
                have tc_1586 : 0 ≤ (x_1573).toInt := Int32.le_iff_toInt_le.mp c_1581
                have h_1587 : rg x_1573 0 5 := rg_le2 c_1581 (rg_k (0 : Int32) 0 rfl) hr_1577 (by decide +kernel)
                have uh_1587 := h_1587.1
                have vh_1587 := h_1587.2
                have hk5 : False := hp_1562.2 (by omega) (hp_1578.1 (by omega)).1 (hp_1578.1 (by omega)).2
                refine lv_aload_n hx hb dX12_keys_72 rfl (lv_at hl 1 rfl) ?_
                refine pg_f (v := .ref this_a) (C := RX12) (T := TX12) (N := 31) hx hb hts (tw_i inlX12) hown hK hP hL_this hK_this (by decide +kernel) rfl 0 (by decide +kernel) (hts _ (tw_c tw_176)) (pq_hv rfl hR_this_a) dX12_keys_73 ?_
                refine lv_iload_n hx hb dX12_keys_76 rfl (lv_at hl 2 rfl) ?_
                refine lv_iconst (v := 5) hx hb dX12_keys_77 (by decide +kernel) ?_
                refine lv_iadd hx hb dX12_keys_78 ?_
                refine lv_topi (fun x_1588 ex_1588 => ?_)
                replace hF := hF.trans (ap_n ex_1588)
                have h_1589 : rg x_1588 3726 12054 := rg_of_eq ex_1588 (rg_add h_1 (rg_k (5 : Int32) 5 rfl) (by decide +kernel))
                have uh_1589 := h_1589.1
                have vh_1589 := h_1589.2
                have tx_1588 : (x_1588).toInt = (a0).toInt + 5 := by rw [ex_1588]; exact i_add_rg (a2 := (a0).toInt) (b2 := 5) rfl rfl h_1 (rg_k (5 : Int32) 5 rfl) (by decide +kernel)
                refine lv_aload_n hx hb dX12_keys_79 rfl (lv_at hl 1 rfl) ?_
                refine pg_f (v := .ref this_a) (C := RX12) (T := TX12) (N := 31) hx hb hts (tw_i inlX12) hown hK hP hL_this hK_this (by decide +kernel) rfl 0 (by decide +kernel) (hts _ (tw_c tw_176)) (pq_hv rfl hR_this_a) dX12_keys_80 ?_
                refine lv_iload_n hx hb dX12_keys_83 rfl (lv_at hl 2 rfl) ?_
                refine lv_iconst (v := 4) hx hb dX12_keys_84 (by decide +kernel) ?_
                refine lv_iadd hx hb dX12_keys_85 ?_
                refine lv_topi (fun x_1590 ex_1590 => ?_)
                replace hF := hF.trans (ap_n ex_1590)
                have h_1591 : rg x_1590 3725 12053 := rg_of_eq ex_1590 (rg_add h_1 (rg_k (4 : Int32) 4 rfl) (by decide +kernel))
                have uh_1591 := h_1591.1
                have vh_1591 := h_1591.2
                have tx_1590 : (x_1590).toInt = (a0).toInt + 4 := by rw [ex_1590]; exact i_add_rg (a2 := (a0).toInt) (b2 := 4) rfl rfl h_1 (rg_k (4 : Int32) 4 rfl) (by decide +kernel)
                refine pl_i hx hb hK hP hL_this_a hK_this_a hN_this_a (rg_in h_1591 (by decide +kernel)) dX12_keys_86 ?_
                refine lv_topi (fun x_1592 ex_1592 => ?_)
                replace hF := hF.trans (ap_n (vR_r hO_this_a (by decide +kernel) ex_1592))
                have ex_1592 : x_1592 = ri_1225 this_a (x_1590).toNatClampNeg := ex_1592
                have h_1593 : rg x_1592 0 4 := rg_of_eq ex_1592 (GM.z hG (by rw [hT_this_a]; decide) (zn_tc (t := (ri this_a 6).toNatClampNeg) (c := (I 397 this).toNatClampNeg) (k := 4) (by have z_i := clampE x_1590; have z_0 := clampE (ri this_a 6); have z_1 := clampE (I 397 this); omega) (rg_cl1 ⟨hc.2.2.2.1, hc.2.2.2.2⟩ (by decide +kernel)) (rg_cl1 ⟨hc.2.1, hc.2.2.1⟩ (by decide +kernel)) (by decide +kernel)) rfl)
                have uh_1593 := h_1593.1
                have vh_1593 := h_1593.2
                have h_1594 : rg x_1592 0 3 := hk5.elim
                have uh_1594 := h_1594.1
                have vh_1594 := h_1594.2
                refine lv_iadd hx hb dX12_keys_87 ?_
                refine lv_topi (fun x_1595 ex_1595 => ?_)
                replace hF := hF.trans (ap_n ex_1595)
                have h_1596 : rg x_1595 3726 12057 := rg_of_eq ex_1595 (rg_add h_1589 h_1594 (by decide +kernel))
                have uh_1596 := h_1596.1
                have vh_1596 := h_1596.2
                have tx_1595 : (x_1595).toInt = (x_1588).toInt + (x_1592).toInt := by rw [ex_1595]; exact i_add_rg (a2 := (x_1588).toInt) (b2 := (x_1592).toInt) rfl rfl h_1589 h_1594 (by decide +kernel)
                refine lv_iload_n hx hb dX12_keys_88 rfl (lv_at hl 0 rfl) ?_
                refine lv_if_eq (tgt := 101) hx hb dX12_keys_89 (by decide +kernel) (fun c_1597 => ?_) (fun c_1597 => absurd c_1597 (by decide +kernel))
                refine lv_aload_n hx hb dX12_keys_101 rfl (lv_at hl 1 rfl) ?_
                refine pk_i (va_runV (As := []) (rest := [.int x_1595, .ref this_a]) ⟨hx, hb, hml, hown, hts⟩ (s_X12_nameOf_d l D t σ I_1223 J_1224 ri_1225 rj rq H.size tg hSH hG.1 this hL_this hK_this) (cwV 0 hts (tw_V tw_921 tw_922 tw_923 tw_5 tw_924) rfl rfl rfl cv_yX12_nameOf_0 ⟨Nat.le_of_ble_eq_true rfl, Nat.le_of_ble_eq_true rfl⟩) ⟨pq_blind, pq_recv hK hP hL_this hK_this (by decide +kernel) rfl, pq_pre hK hN hP hD⟩ rfl rfl hl.1 rfl (lv_room (Nat.le_of_ble_eq_true rfl)) dX12_keys_102 ⟨Nat.le_of_ble_eq_true rfl, Nat.le_of_ble_eq_true rfl⟩) hD hS hA (fun x_1598 σ1 μ1 H locs hw_1599 hP hD hS => ?_)
                obtain ⟨hu_1600, hp_1603, hfn_1604, hr_1602⟩ := hw_1599
                obtain ⟨hu_1600a, hu_1600b⟩ := Prod.mk.inj hu_1600
                rw [hu_1600a, hu_1600b] at hP hD
                replace hF := hF.trans (bn_n hfn_1604)
                refine pt_i hx hb hK hP hD hS hL_this_a hK_this_a hN_this_a (rg_in h_1596 (by decide +kernel)) dX12_keys_105 (fun r_1606 H locs er_1606 hP hD hS => ?_)
                replace hFr := fr_R hFr hO_this_a (by decide +kernel) er_1606
                replace hF := hF.trans (ap_n (vR_st hVT hO_this_a (by decide +kernel) er_1606))
                have hk4 : 0 ≤ (x_1592).toInt ∧ (x_1592).toInt ≤ 3 := ⟨by omega, by omega⟩
                have hG := GM.wth hG hT_this_a (by decide +kernel) er_1606 (I 397 this).toNatClampNeg (by omega) (n := (ri this_a 6).toNatClampNeg) (by omega) (k := 5 + (x_1592).toNatClampNeg) (by have z_i := clampE x_1595; have z_k := clampE x_1592; omega) (by have z_k := clampE x_1592; omega) (by have z6 := congrArg Int32.toInt (hG.2.2.1 this_a hT_this_a 6 (by decide +kernel) (by decide +kernel)); have z_i := clampE x_1595; omega) (by decide +kernel)
                refine lv_aload_n hx hb dX12_keys_106 rfl (lv_at hl 1 rfl) ?_
                refine pg_f (v := .ref this_a) (C := RX12) (T := TX12) (N := 31) hx hb hts (tw_i inlX12) hown hK hP hL_this hK_this (by decide +kernel) rfl 0 (by decide +kernel) (hts _ (tw_c tw_176)) (pq_hv rfl hR_this_a) dX12_keys_107 ?_
                refine lv_iload_n hx hb dX12_keys_110 rfl (lv_at hl 2 rfl) ?_
                refine lv_iconst (v := 4) hx hb dX12_keys_111 (by decide +kernel) ?_
                refine lv_iadd hx hb dX12_keys_112 ?_
                refine lv_topi (fun x_1607 ex_1607 => ?_)
                replace hF := hF.trans (ap_n ex_1607)
                have h_1608 : rg x_1607 3725 12053 := rg_of_eq ex_1607 (rg_add h_1 (rg_k (4 : Int32) 4 rfl) (by decide +kernel))
                have uh_1608 := h_1608.1
                have vh_1608 := h_1608.2
                have tx_1607 : (x_1607).toInt = (a0).toInt + 4 := by rw [ex_1607]; exact i_add_rg (a2 := (a0).toInt) (b2 := 4) rfl rfl h_1 (rg_k (4 : Int32) 4 rfl) (by decide +kernel)
                refine lv_dup2_11 hx hb dX12_keys_113 rfl rfl ?_
                refine pl_i hx hb hK hP hL_this_a hK_this_a hN_this_a (rg_in h_1608 (by decide +kernel)) dX12_keys_114 ?_
                refine lv_topi (fun x_1609 ex_1609 => ?_)
                replace hF := hF.trans (ap_n (vR_r hO_this_a (by decide +kernel) ex_1609))
                have ex_1609 : x_1609 = r_1606 this_a (x_1607).toNatClampNeg := ex_1609
                have h_1610 : rg x_1609 0 4 := rg_of_eq ex_1609 (GM.z hG (by rw [hT_this_a]; decide) (zn_tc (t := (ri this_a 6).toNatClampNeg) (c := (I 397 this).toNatClampNeg) (k := 4) (by have z_i := clampE x_1607; have z_0 := clampE (ri this_a 6); have z_1 := clampE (I 397 this); omega) (rg_cl1 ⟨hc.2.2.2.1, hc.2.2.2.2⟩ (by decide +kernel)) (rg_cl1 ⟨hc.2.1, hc.2.2.1⟩ (by decide +kernel)) (by decide +kernel)) rfl)
                have uh_1610 := h_1610.1
                have vh_1610 := h_1610.2
                have hkz : (x_1609).toInt = (x_1592).toInt := by rw [show x_1609 = x_1592 from by rw [ex_1609, er_1606, va_up_self, upd_off (by have z0 := clampE x_1607; have z1 := clampE x_1595; have z2 := clampE x_1592; omega), ex_1592]; exact congrArg (ri_1225 this_a) (by have z0 := clampE x_1607; have z1 := clampE x_1590; omega)]
                have h_1611 : rg x_1609 0 3 := ⟨by omega, by omega⟩
                have uh_1611 := h_1611.1
                have vh_1611 := h_1611.2
                refine lv_iconst (v := 1) hx hb dX12_keys_115 (by decide +kernel) ?_
                refine lv_iadd hx hb dX12_keys_116 ?_
                refine lv_topi (fun x_1612 ex_1612 => ?_)
                replace hF := hF.trans (ap_n ex_1612)
                have h_1613 : rg x_1612 1 4 := rg_of_eq ex_1612 (rg_add h_1611 (rg_k (1 : Int32) 1 rfl) (by decide +kernel))
                have uh_1613 := h_1613.1
                have vh_1613 := h_1613.2
                have tx_1612 : (x_1612).toInt = (x_1609).toInt + 1 := by rw [ex_1612]; exact i_add_rg (a2 := (x_1609).toInt) (b2 := 1) rfl rfl h_1611 (rg_k (1 : Int32) 1 rfl) (by decide +kernel)
                refine pt_i hx hb hK hP hD hS hL_this_a hK_this_a hN_this_a (rg_in h_1608 (by decide +kernel)) dX12_keys_117 (fun r_1614 H locs er_1614 hP hD hS => ?_)
                replace hFr := fr_R hFr hO_this_a (by decide +kernel) er_1614
                replace hF := hF.trans (ap_n (vR_st hVT hO_this_a (by decide +kernel) er_1614))
                have hG := GM.wt hG hT_this_a (by decide +kernel) er_1614 (zn_tc (t := (ri this_a 6).toNatClampNeg) (c := (I 397 this).toNatClampNeg) (k := 4) (by have z_i := clampE x_1607; have z_0 := clampE (ri this_a 6); have z_1 := clampE (I 397 this); omega) (rg_cl1 ⟨hc.2.2.2.1, hc.2.2.2.2⟩ (by decide +kernel)) (rg_cl1 ⟨hc.2.1, hc.2.2.1⟩ (by decide +kernel)) (by decide +kernel)) rfl (rg_w h_1613 (by decide +kernel)) (by have z6 := congrArg Int32.toInt (hG.2.2.1 this_a hT_this_a 6 (by decide +kernel) (by decide +kernel)); have z_i := clampE x_1607; omega) (by decide +kernel)
                refine lv_aload_n hx hb dX12_keys_118 rfl (lv_at hl 1 rfl) ?_
                have hkn_1615 : (I_1223 393 this).toInt ≠ 0 := fun q => absurd (q.symm.trans (hp_1578.1 (by omega)).1) (by decide +kernel)
                obtain ⟨w_1616, hR_w_1616, hL_w_1616, hK_w_1616, hN_w_1616, hT_w_1616⟩ := sh_a hSH 387 (ci := 12) (kd := 13) (len := 300) rfl (by decide +kernel) hL_this hK_this
                have hO_w_1616 : w_1616 = vrow σ 387 this := vo_k (c := 12) hO_this hR_w_1616
                refine pk_v (va_runV (As := []) (rest := []) ⟨hx, hb, hml, hown, hts⟩ (s_X12_nextToken_x l D t σ I_1223 J_1224 r_1614 rj rq H.size tg hSH hG.1 this hL_this hK_this w_1616 hR_w_1616 hL_w_1616 hK_w_1616 hN_w_1616 hT_w_1616) (cwV 0 hts (tw_V tw_832 tw_833 tw_834 tw_5 tw_835) rfl rfl rfl cv_yX12_nextToken_0 ⟨Nat.le_of_ble_eq_true rfl, Nat.le_of_ble_eq_true rfl⟩) ⟨pq_blind, pq_recv hK hP hL_this hK_this (by decide +kernel) rfl, pq_pre hK hN hP hD⟩ rfl rfl hl.1 rfl (lv_room (Nat.le_of_ble_eq_true rfl)) dX12_keys_119 ⟨Nat.le_of_ble_eq_true rfl, Nat.le_of_ble_eq_true rfl⟩) hD hS hA (fun σ1 μ1 H locs hw_1618 hP hD hS => ?_)
                obtain ⟨I_1619, J_1620, hu_1621, hg_1622, hp_1624, hp_1625, hp_1626, hfn_1627, hfr_1628⟩ := hw_1618
                obtain ⟨hu_1621a, hu_1621b⟩ := Prod.mk.inj hu_1621
                rw [hu_1621a, hu_1621b] at hP hD
                replace hF := hF.trans (bv_n hfn_1627)
                replace hFr := fr_tr hFr hfr_1628
                have tt_1629 : (I_1619 391 this).toInt ≤ 300 := by have z := hg_1622.1.1 391 this; exact z.2
                have hG := GM.tr hG hg_1622 (by decide +kernel)
                have tt_1630 : (I_1619 397 this).toInt = (I_1223 397 this).toInt := by rw [hg_1622.2.1 397 (by decide +kernel) (by decide +kernel)]
                refine lv_aload_n hx hb dX12_keys_122 rfl (lv_at hl 1 rfl) ?_
                refine pg_f (v := .int (I_1619 393 this)) (C := RX12) (T := TX12) (N := 31) hx hb hts (tw_i inlX12) hown hK hP hL_this hK_this (by decide +kernel) rfl 9 (by decide +kernel) (hts _ (tw_c tw_831)) rfl dX12_keys_123 ?_
                replace hF := hF.trans (ap_n (vI_e (f := 393) hO_this (by decide +kernel)))
                refine lv_bipush (v := 44) hx hb dX12_keys_126 (by decide +kernel) ?_
                refine lv_icmp_ne (tgt := 135) hx hb dX12_keys_128 (by decide +kernel) (fun c_1632 => ?_) (fun c_1632 => ?_)
                · replace hF := hF.trans (if_neg c_1632)
                  have tc_1636 : (I_1619 393 this).toInt ≠ 44 := fun q => c_1632 (Int32.toInt_inj.mp q)
                  refine lv_iconst (v := 0) hx hb dX12_keys_135 (by decide +kernel) ?_
                  refine lv_istore_n (lv' := [(2, .int 0), (3, .int 0), (0, .ref this), (1, .int a0)]) hx hb dX12_keys_136 rfl hl (by decide +kernel) rfl (fun ls hl => ?_)
                  refine lv_iload_n hx hb dX12_keys_137 rfl (lv_at hl 0 rfl) ?_
                  refine lv_if_eq (tgt := 145) hx hb dX12_keys_138 (by decide +kernel) (fun c_1637 => ?_) (fun c_1637 => absurd c_1637 (by decide +kernel))
                  refine lv_goto (tgt := 11) hx hb dX12_keys_145 (by decide +kernel) ?_
                  exact ih_1532 (0 : Int32) I_1619 J_1620 r_1614 _ _ _ (rg_w (rg_k (0 : Int32) 0 rfl) (by decide +kernel)) (by have k0 : (0 : Int32).toInt = 0 := rfl; omega) (fun j hj => by rw [er_1614, va_up_self, upd_off (by have z0 := clampE x_1607; omega)]; exact (show ∀ j : Nat, (j : Int) < a0.toInt + 4 ∨ a0.toInt + 12 ≤ (j : Int) → r_1606 this_a j = ri this_a j from (fun j hj => by rw [er_1606, va_up_self, upd_off (by have z0 := clampE x_1595; omega)]; exact (show ∀ j : Nat, (j : Int) < a0.toInt + 4 ∨ a0.toInt + 12 ≤ (j : Int) → ri_1225 this_a j = ri this_a j from hrel_1539) j hj)) j hj) (Int.le_of_lt (Int.lt_of_lt_of_le (tm_lt hkn_1615 hp_1624 hp_1625) hrel_1540)) (tm_ms hm_1529 (tm_lt hkn_1615 hp_1624 hp_1625) (tm_b ((hG.1.1 391 this).2))) hF hFr hG hP hD hS (lv_sub hl [2, 3, 0] rfl)
                · replace hF := hF.trans (if_pos c_1632)
                  have tc_1638 : (I_1619 393 this).toInt = 44 := congrArg Int32.toInt c_1632
                  have h_1639 : rg (I_1619 393 this) 44 44 := rg_and (rg_full _) (rg_of_eq c_1632 (rg_k (44 : Int32) 44 rfl)) (by decide +kernel)
                  have uh_1639 := h_1639.1
                  have vh_1639 := h_1639.2
                  refine lv_iconst (v := 1) hx hb dX12_keys_131 (by decide +kernel) ?_
                  refine lv_goto (tgt := 136) hx hb dX12_keys_132 (by decide +kernel) ?_
                  refine lv_istore_n (lv' := [(2, .int 1), (3, .int 0), (0, .ref this), (1, .int a0)]) hx hb dX12_keys_136 rfl hl (by decide +kernel) rfl (fun ls hl => ?_)
                  refine lv_iload_n hx hb dX12_keys_137 rfl (lv_at hl 0 rfl) ?_
                  refine lv_if_eq (tgt := 145) hx hb dX12_keys_138 (by decide +kernel) (fun c_1640 => absurd c_1640 (by decide +kernel)) (fun c_1640 => ?_)
                  refine lv_aload_n hx hb dX12_keys_141 rfl (lv_at hl 2 rfl) ?_
                  have hkn_1641 : (I_1619 393 this).toInt ≠ 0 := by omega
                  refine pk_v (va_runV (As := []) (rest := []) ⟨hx, hb, hml, hown, hts⟩ (s_X12_nextToken_x l D t σ I_1619 J_1620 r_1614 rj rq H.size tg hSH hG.1 this hL_this hK_this w_1616 hR_w_1616 hL_w_1616 hK_w_1616 hN_w_1616 hT_w_1616) (cwV 0 hts (tw_V tw_832 tw_833 tw_834 tw_5 tw_835) rfl rfl rfl cv_yX12_nextToken_0 ⟨Nat.le_of_ble_eq_true rfl, Nat.le_of_ble_eq_true rfl⟩) ⟨pq_blind, pq_recv hK hP hL_this hK_this (by decide +kernel) rfl, pq_pre hK hN hP hD⟩ rfl rfl hl.1 rfl (lv_room (Nat.le_of_ble_eq_true rfl)) dX12_keys_142 ⟨Nat.le_of_ble_eq_true rfl, Nat.le_of_ble_eq_true rfl⟩) hD hS hA (fun σ1 μ1 H locs hw_1643 hP hD hS => ?_)
                  obtain ⟨I_1644, J_1645, hu_1646, hg_1647, hp_1649, hp_1650, hp_1651, hfn_1652, hfr_1653⟩ := hw_1643
                  obtain ⟨hu_1646a, hu_1646b⟩ := Prod.mk.inj hu_1646
                  rw [hu_1646a, hu_1646b] at hP hD
                  replace hF := hF.trans (bv_n hfn_1652)
                  replace hFr := fr_tr hFr hfr_1653
                  have tt_1654 : (I_1644 391 this).toInt ≤ 300 := by have z := hg_1647.1.1 391 this; exact z.2
                  have hG := GM.tr hG hg_1647 (by decide +kernel)
                  have tt_1655 : (I_1644 397 this).toInt = (I_1619 397 this).toInt := by rw [hg_1647.2.1 397 (by decide +kernel) (by decide +kernel)]
                  refine lv_goto (tgt := 11) hx hb dX12_keys_145 (by decide +kernel) ?_
                  exact ih_1532 (1 : Int32) I_1644 J_1645 r_1614 _ _ _ (rg_w (rg_k (1 : Int32) 1 rfl) (by decide +kernel)) (by have k0 : (1 : Int32).toInt = 1 := rfl; omega) (fun j hj => by rw [er_1614, va_up_self, upd_off (by have z0 := clampE x_1607; omega)]; exact (show ∀ j : Nat, (j : Int) < a0.toInt + 4 ∨ a0.toInt + 12 ≤ (j : Int) → r_1606 this_a j = ri this_a j from (fun j hj => by rw [er_1606, va_up_self, upd_off (by have z0 := clampE x_1595; omega)]; exact (show ∀ j : Nat, (j : Int) < a0.toInt + 4 ∨ a0.toInt + 12 ≤ (j : Int) → ri_1225 this_a j = ri this_a j from hrel_1539) j hj)) j hj) (Int.le_of_lt (Int.lt_of_lt_of_le (Int.lt_trans (tm_lt hkn_1641 hp_1649 hp_1650) (tm_lt hkn_1615 hp_1624 hp_1625)) hrel_1540)) (tm_ms hm_1529 (Int.lt_trans (tm_lt hkn_1641 hp_1649 hp_1650) (tm_lt hkn_1615 hp_1624 hp_1625)) (tm_b ((hG.1.1 391 this).2))) hF hFr hG hP hD hS (lv_sub hl [2, 3, 0] rfl)
              · replace hF := hF.trans (if_neg c_1581)
                have tc_1656 : (x_1573).toInt < 0 := Int32.lt_iff_toInt_lt.mp (nle c_1581)
                have h_1657 : rg x_1573 (-1) (-1) := rg_lt1 (nle c_1581) hr_1577 (rg_k (0 : Int32) 0 rfl) (by decide +kernel)
                have uh_1657 := h_1657.1
                have vh_1657 := h_1657.2
                refine lv_iconst (v := 1) hx hb dX12_keys_70 (by decide +kernel) ?_
                subst hQ
                exact W.iret (v := 1) hx hb hr (fun t1 ht hW => ⟨⟨1, (σ, I_1223, J_1224, ri_1225, rj, rq), rfl, ⟨I_1223, J_1224, ri_1225, rfl, hG, (by omega), hrel_1539, hrel_1540, (hF0.symm.trans hF), hFr, (rg_w (rg_k (1 : Int32) 1 rfl) (by decide +kernel))⟩, by rw [ht]; exact hP, va_K.moved hW.alike hK, hD⟩, hS.F ht⟩) hS.2.2 dX12_keys_71
            · replace hF := hF.trans (if_neg c_1565)
              have tc_1658 : 0 ≤ (x_1557).toInt := Int32.le_iff_toInt_le.mp (nlt c_1565)
              have h_1659 : rg x_1557 0 5 := rg_le2 (nlt c_1565) (rg_k (0 : Int32) 0 rfl) hr_1561 (by decide +kernel)
              have uh_1659 := h_1659.1
              have vh_1659 := h_1659.2
              refine lv_aload_n hx hb dX12_keys_41 rfl (lv_at hl 1 rfl) ?_
              refine pg_f (v := .ref this_a) (C := RX12) (T := TX12) (N := 31) hx hb hts (tw_i inlX12) hown hK hP hL_this hK_this (by decide +kernel) rfl 0 (by decide +kernel) (hts _ (tw_c tw_176)) (pq_hv rfl hR_this_a) dX12_keys_42 ?_
              refine lv_iload_n hx hb dX12_keys_45 rfl (lv_at hl 2 rfl) ?_
              refine lv_iconst (v := 4) hx hb dX12_keys_46 (by decide +kernel) ?_
              refine lv_iadd hx hb dX12_keys_47 ?_
              refine lv_topi (fun x_1660 ex_1660 => ?_)
              replace hF := hF.trans (ap_n ex_1660)
              have h_1661 : rg x_1660 3725 12053 := rg_of_eq ex_1660 (rg_add h_1 (rg_k (4 : Int32) 4 rfl) (by decide +kernel))
              have uh_1661 := h_1661.1
              have vh_1661 := h_1661.2
              have tx_1660 : (x_1660).toInt = (a0).toInt + 4 := by rw [ex_1660]; exact i_add_rg (a2 := (a0).toInt) (b2 := 4) rfl rfl h_1 (rg_k (4 : Int32) 4 rfl) (by decide +kernel)
              refine pl_i hx hb hK hP hL_this_a hK_this_a hN_this_a (rg_in h_1661 (by decide +kernel)) dX12_keys_48 ?_
              refine lv_topi (fun x_1662 ex_1662 => ?_)
              replace hF := hF.trans (ap_n (vR_r hO_this_a (by decide +kernel) ex_1662))
              have ex_1662 : x_1662 = ri_1225 this_a (x_1660).toNatClampNeg := ex_1662
              have h_1663 : rg x_1662 0 4 := rg_of_eq ex_1662 (GM.z hG (by rw [hT_this_a]; decide) (zn_tc (t := (ri this_a 6).toNatClampNeg) (c := (I 397 this).toNatClampNeg) (k := 4) (by have z_i := clampE x_1660; have z_0 := clampE (ri this_a 6); have z_1 := clampE (I 397 this); omega) (rg_cl1 ⟨hc.2.2.2.1, hc.2.2.2.2⟩ (by decide +kernel)) (rg_cl1 ⟨hc.2.1, hc.2.2.1⟩ (by decide +kernel)) (by decide +kernel)) rfl)
              have uh_1663 := h_1663.1
              have vh_1663 := h_1663.2
              refine lv_iconst (v := 4) hx hb dX12_keys_49 (by decide +kernel) ?_
              refine lv_icmp_ne (tgt := 55) hx hb dX12_keys_50 (by decide +kernel) (fun c_1664 => ?_) (fun c_1664 => ?_)
              · replace hF := hF.trans (if_neg c_1664)
                have tc_1669 : (x_1662).toInt ≠ 4 := fun q => c_1664 (Int32.toInt_inj.mp q)
                have h_1670 : rg x_1662 0 3 := rg_ne c_1664 h_1663 4 rfl (by decide +kernel)
                have uh_1670 := h_1670.1
                have vh_1670 := h_1670.2
                refine lv_iload_n hx hb dX12_keys_55 rfl (lv_at hl 0 rfl) ?_
                refine lv_if_eq (tgt := 63) hx hb dX12_keys_56 (by decide +kernel) (fun c_1671 => ?_) (fun c_1671 => absurd c_1671 (by decide +kernel))
                refine lv_aload_n hx hb dX12_keys_63 rfl (lv_at hl 1 rfl) ?_
                refine pk_i (va_runV (As := []) (rest := []) ⟨hx, hb, hml, hown, hts⟩ (s_X12_nameOf_d l D t σ I_1223 J_1224 ri_1225 rj rq H.size tg hSH hG.1 this hL_this hK_this) (cwV 0 hts (tw_V tw_921 tw_922 tw_923 tw_5 tw_924) rfl rfl rfl cv_yX12_nameOf_0 ⟨Nat.le_of_ble_eq_true rfl, Nat.le_of_ble_eq_true rfl⟩) ⟨pq_blind, pq_recv hK hP hL_this hK_this (by decide +kernel) rfl, pq_pre hK hN hP hD⟩ rfl rfl hl.1 rfl (lv_room (Nat.le_of_ble_eq_true rfl)) dX12_keys_64 ⟨Nat.le_of_ble_eq_true rfl, Nat.le_of_ble_eq_true rfl⟩) hD hS hA (fun x_1672 σ1 μ1 H locs hw_1673 hP hD hS => ?_)
                obtain ⟨hu_1674, hp_1677, hfn_1678, hr_1676⟩ := hw_1673
                obtain ⟨hu_1674a, hu_1674b⟩ := Prod.mk.inj hu_1674
                rw [hu_1674a, hu_1674b] at hP hD
                replace hF := hF.trans (bn_n hfn_1678)
                refine lv_if_ge (tgt := 72) hx hb dX12_keys_67 (by decide +kernel) (fun c_1680 => ?_) (fun c_1680 => ?_)
                · replace hF := hF.trans (if_pos c_1680)
                  have tc_1685 : 0 ≤ (x_1672).toInt := Int32.le_iff_toInt_le.mp c_1680
                  have h_1686 : rg x_1672 0 5 := rg_le2 c_1680 (rg_k (0 : Int32) 0 rfl) hr_1676 (by decide +kernel)
                  have uh_1686 := h_1686.1
                  have vh_1686 := h_1686.2
                  refine lv_aload_n hx hb dX12_keys_72 rfl (lv_at hl 1 rfl) ?_
                  refine pg_f (v := .ref this_a) (C := RX12) (T := TX12) (N := 31) hx hb hts (tw_i inlX12) hown hK hP hL_this hK_this (by decide +kernel) rfl 0 (by decide +kernel) (hts _ (tw_c tw_176)) (pq_hv rfl hR_this_a) dX12_keys_73 ?_
                  refine lv_iload_n hx hb dX12_keys_76 rfl (lv_at hl 2 rfl) ?_
                  refine lv_iconst (v := 5) hx hb dX12_keys_77 (by decide +kernel) ?_
                  refine lv_iadd hx hb dX12_keys_78 ?_
                  refine lv_topi (fun x_1687 ex_1687 => ?_)
                  replace hF := hF.trans (ap_n ex_1687)
                  have h_1688 : rg x_1687 3726 12054 := rg_of_eq ex_1687 (rg_add h_1 (rg_k (5 : Int32) 5 rfl) (by decide +kernel))
                  have uh_1688 := h_1688.1
                  have vh_1688 := h_1688.2
                  have tx_1687 : (x_1687).toInt = (a0).toInt + 5 := by rw [ex_1687]; exact i_add_rg (a2 := (a0).toInt) (b2 := 5) rfl rfl h_1 (rg_k (5 : Int32) 5 rfl) (by decide +kernel)
                  refine lv_aload_n hx hb dX12_keys_79 rfl (lv_at hl 1 rfl) ?_
                  refine pg_f (v := .ref this_a) (C := RX12) (T := TX12) (N := 31) hx hb hts (tw_i inlX12) hown hK hP hL_this hK_this (by decide +kernel) rfl 0 (by decide +kernel) (hts _ (tw_c tw_176)) (pq_hv rfl hR_this_a) dX12_keys_80 ?_
                  refine lv_iload_n hx hb dX12_keys_83 rfl (lv_at hl 2 rfl) ?_
                  refine lv_iconst (v := 4) hx hb dX12_keys_84 (by decide +kernel) ?_
                  refine lv_iadd hx hb dX12_keys_85 ?_
                  refine lv_topi (fun x_1689 ex_1689 => ?_)
                  replace hF := hF.trans (ap_n ex_1689)
                  have h_1690 : rg x_1689 3725 12053 := rg_of_eq ex_1689 (rg_add h_1 (rg_k (4 : Int32) 4 rfl) (by decide +kernel))
                  have uh_1690 := h_1690.1
                  have vh_1690 := h_1690.2
                  have tx_1689 : (x_1689).toInt = (a0).toInt + 4 := by rw [ex_1689]; exact i_add_rg (a2 := (a0).toInt) (b2 := 4) rfl rfl h_1 (rg_k (4 : Int32) 4 rfl) (by decide +kernel)
                  refine pl_i hx hb hK hP hL_this_a hK_this_a hN_this_a (rg_in h_1690 (by decide +kernel)) dX12_keys_86 ?_
                  refine lv_topi (fun x_1691 ex_1691 => ?_)
                  replace hF := hF.trans (ap_n (vR_r hO_this_a (by decide +kernel) ex_1691))
                  have ex_1691 : x_1691 = ri_1225 this_a (x_1689).toNatClampNeg := ex_1691
                  have h_1692 : rg x_1691 0 4 := rg_of_eq ex_1691 (GM.z hG (by rw [hT_this_a]; decide) (zn_tc (t := (ri this_a 6).toNatClampNeg) (c := (I 397 this).toNatClampNeg) (k := 4) (by have z_i := clampE x_1689; have z_0 := clampE (ri this_a 6); have z_1 := clampE (I 397 this); omega) (rg_cl1 ⟨hc.2.2.2.1, hc.2.2.2.2⟩ (by decide +kernel)) (rg_cl1 ⟨hc.2.1, hc.2.2.1⟩ (by decide +kernel)) (by decide +kernel)) rfl)
                  have uh_1692 := h_1692.1
                  have vh_1692 := h_1692.2
                  have hzz : (x_1691).toInt = (x_1662).toInt := congrArg Int32.toInt (show x_1691 = x_1662 from by rw [show x_1691 = _ from ex_1691, show x_1662 = _ from ex_1662]; exact congrArg (ri_1225 this_a) (by have z0 := clampE x_1689; have z1 := clampE x_1660; omega))
                  have h_1693 : rg x_1662 0 3 := ⟨by omega, by omega⟩
                  have uh_1693 := h_1693.1
                  have vh_1693 := h_1693.2
                  have h_1694 : rg x_1691 0 3 := ⟨by omega, by omega⟩
                  have uh_1694 := h_1694.1
                  have vh_1694 := h_1694.2
                  refine lv_iadd hx hb dX12_keys_87 ?_
                  refine lv_topi (fun x_1695 ex_1695 => ?_)
                  replace hF := hF.trans (ap_n ex_1695)
                  have h_1696 : rg x_1695 3726 12057 := rg_of_eq ex_1695 (rg_add h_1688 h_1694 (by decide +kernel))
                  have uh_1696 := h_1696.1
                  have vh_1696 := h_1696.2
                  have tx_1695 : (x_1695).toInt = (x_1687).toInt + (x_1691).toInt := by rw [ex_1695]; exact i_add_rg (a2 := (x_1687).toInt) (b2 := (x_1691).toInt) rfl rfl h_1688 h_1694 (by decide +kernel)
                  refine lv_iload_n hx hb dX12_keys_88 rfl (lv_at hl 0 rfl) ?_
                  refine lv_if_eq (tgt := 101) hx hb dX12_keys_89 (by decide +kernel) (fun c_1697 => ?_) (fun c_1697 => absurd c_1697 (by decide +kernel))
                  refine lv_aload_n hx hb dX12_keys_101 rfl (lv_at hl 1 rfl) ?_
                  refine pk_i (va_runV (As := []) (rest := [.int x_1695, .ref this_a]) ⟨hx, hb, hml, hown, hts⟩ (s_X12_nameOf_d l D t σ I_1223 J_1224 ri_1225 rj rq H.size tg hSH hG.1 this hL_this hK_this) (cwV 0 hts (tw_V tw_921 tw_922 tw_923 tw_5 tw_924) rfl rfl rfl cv_yX12_nameOf_0 ⟨Nat.le_of_ble_eq_true rfl, Nat.le_of_ble_eq_true rfl⟩) ⟨pq_blind, pq_recv hK hP hL_this hK_this (by decide +kernel) rfl, pq_pre hK hN hP hD⟩ rfl rfl hl.1 rfl (lv_room (Nat.le_of_ble_eq_true rfl)) dX12_keys_102 ⟨Nat.le_of_ble_eq_true rfl, Nat.le_of_ble_eq_true rfl⟩) hD hS hA (fun x_1698 σ1 μ1 H locs hw_1699 hP hD hS => ?_)
                  obtain ⟨hu_1700, hp_1703, hfn_1704, hr_1702⟩ := hw_1699
                  obtain ⟨hu_1700a, hu_1700b⟩ := Prod.mk.inj hu_1700
                  rw [hu_1700a, hu_1700b] at hP hD
                  replace hF := hF.trans (bn_n hfn_1704)
                  refine pt_i hx hb hK hP hD hS hL_this_a hK_this_a hN_this_a (rg_in h_1696 (by decide +kernel)) dX12_keys_105 (fun r_1706 H locs er_1706 hP hD hS => ?_)
                  replace hFr := fr_R hFr hO_this_a (by decide +kernel) er_1706
                  replace hF := hF.trans (ap_n (vR_st hVT hO_this_a (by decide +kernel) er_1706))
                  have hk4 : 0 ≤ (x_1691).toInt ∧ (x_1691).toInt ≤ 3 := ⟨by omega, by omega⟩
                  have hG := GM.wth hG hT_this_a (by decide +kernel) er_1706 (I 397 this).toNatClampNeg (by omega) (n := (ri this_a 6).toNatClampNeg) (by omega) (k := 5 + (x_1691).toNatClampNeg) (by have z_i := clampE x_1695; have z_k := clampE x_1691; omega) (by have z_k := clampE x_1691; omega) (by have z6 := congrArg Int32.toInt (hG.2.2.1 this_a hT_this_a 6 (by decide +kernel) (by decide +kernel)); have z_i := clampE x_1695; omega) (by decide +kernel)
                  refine lv_aload_n hx hb dX12_keys_106 rfl (lv_at hl 1 rfl) ?_
                  refine pg_f (v := .ref this_a) (C := RX12) (T := TX12) (N := 31) hx hb hts (tw_i inlX12) hown hK hP hL_this hK_this (by decide +kernel) rfl 0 (by decide +kernel) (hts _ (tw_c tw_176)) (pq_hv rfl hR_this_a) dX12_keys_107 ?_
                  refine lv_iload_n hx hb dX12_keys_110 rfl (lv_at hl 2 rfl) ?_
                  refine lv_iconst (v := 4) hx hb dX12_keys_111 (by decide +kernel) ?_
                  refine lv_iadd hx hb dX12_keys_112 ?_
                  refine lv_topi (fun x_1707 ex_1707 => ?_)
                  replace hF := hF.trans (ap_n ex_1707)
                  have h_1708 : rg x_1707 3725 12053 := rg_of_eq ex_1707 (rg_add h_1 (rg_k (4 : Int32) 4 rfl) (by decide +kernel))
                  have uh_1708 := h_1708.1
                  have vh_1708 := h_1708.2
                  have tx_1707 : (x_1707).toInt = (a0).toInt + 4 := by rw [ex_1707]; exact i_add_rg (a2 := (a0).toInt) (b2 := 4) rfl rfl h_1 (rg_k (4 : Int32) 4 rfl) (by decide +kernel)
                  refine lv_dup2_11 hx hb dX12_keys_113 rfl rfl ?_
                  refine pl_i hx hb hK hP hL_this_a hK_this_a hN_this_a (rg_in h_1708 (by decide +kernel)) dX12_keys_114 ?_
                  refine lv_topi (fun x_1709 ex_1709 => ?_)
                  replace hF := hF.trans (ap_n (vR_r hO_this_a (by decide +kernel) ex_1709))
                  have ex_1709 : x_1709 = r_1706 this_a (x_1707).toNatClampNeg := ex_1709
                  have h_1710 : rg x_1709 0 4 := rg_of_eq ex_1709 (GM.z hG (by rw [hT_this_a]; decide) (zn_tc (t := (ri this_a 6).toNatClampNeg) (c := (I 397 this).toNatClampNeg) (k := 4) (by have z_i := clampE x_1707; have z_0 := clampE (ri this_a 6); have z_1 := clampE (I 397 this); omega) (rg_cl1 ⟨hc.2.2.2.1, hc.2.2.2.2⟩ (by decide +kernel)) (rg_cl1 ⟨hc.2.1, hc.2.2.1⟩ (by decide +kernel)) (by decide +kernel)) rfl)
                  have uh_1710 := h_1710.1
                  have vh_1710 := h_1710.2
                  have hkz : (x_1709).toInt = (x_1691).toInt := by rw [show x_1709 = x_1691 from by rw [ex_1709, er_1706, va_up_self, upd_off (by have z0 := clampE x_1707; have z1 := clampE x_1695; have z2 := clampE x_1691; omega), ex_1691]; exact congrArg (ri_1225 this_a) (by have z0 := clampE x_1707; have z1 := clampE x_1689; omega)]
                  have h_1711 : rg x_1709 0 3 := ⟨by omega, by omega⟩
                  have uh_1711 := h_1711.1
                  have vh_1711 := h_1711.2
                  refine lv_iconst (v := 1) hx hb dX12_keys_115 (by decide +kernel) ?_
                  refine lv_iadd hx hb dX12_keys_116 ?_
                  refine lv_topi (fun x_1712 ex_1712 => ?_)
                  replace hF := hF.trans (ap_n ex_1712)
                  have h_1713 : rg x_1712 1 4 := rg_of_eq ex_1712 (rg_add h_1711 (rg_k (1 : Int32) 1 rfl) (by decide +kernel))
                  have uh_1713 := h_1713.1
                  have vh_1713 := h_1713.2
                  have tx_1712 : (x_1712).toInt = (x_1709).toInt + 1 := by rw [ex_1712]; exact i_add_rg (a2 := (x_1709).toInt) (b2 := 1) rfl rfl h_1711 (rg_k (1 : Int32) 1 rfl) (by decide +kernel)
                  refine pt_i hx hb hK hP hD hS hL_this_a hK_this_a hN_this_a (rg_in h_1708 (by decide +kernel)) dX12_keys_117 (fun r_1714 H locs er_1714 hP hD hS => ?_)
                  replace hFr := fr_R hFr hO_this_a (by decide +kernel) er_1714
                  replace hF := hF.trans (ap_n (vR_st hVT hO_this_a (by decide +kernel) er_1714))
                  have hG := GM.wt hG hT_this_a (by decide +kernel) er_1714 (zn_tc (t := (ri this_a 6).toNatClampNeg) (c := (I 397 this).toNatClampNeg) (k := 4) (by have z_i := clampE x_1707; have z_0 := clampE (ri this_a 6); have z_1 := clampE (I 397 this); omega) (rg_cl1 ⟨hc.2.2.2.1, hc.2.2.2.2⟩ (by decide +kernel)) (rg_cl1 ⟨hc.2.1, hc.2.2.1⟩ (by decide +kernel)) (by decide +kernel)) rfl (rg_w h_1713 (by decide +kernel)) (by have z6 := congrArg Int32.toInt (hG.2.2.1 this_a hT_this_a 6 (by decide +kernel) (by decide +kernel)); have z_i := clampE x_1707; omega) (by decide +kernel)
                  refine lv_aload_n hx hb dX12_keys_118 rfl (lv_at hl 1 rfl) ?_
                  have hkn_1715 : (I_1223 393 this).toInt ≠ 0 := fun q => absurd (q.symm.trans (hp_1677.1 (by omega)).1) (by decide +kernel)
                  obtain ⟨w_1716, hR_w_1716, hL_w_1716, hK_w_1716, hN_w_1716, hT_w_1716⟩ := sh_a hSH 387 (ci := 12) (kd := 13) (len := 300) rfl (by decide +kernel) hL_this hK_this
                  have hO_w_1716 : w_1716 = vrow σ 387 this := vo_k (c := 12) hO_this hR_w_1716
                  refine pk_v (va_runV (As := []) (rest := []) ⟨hx, hb, hml, hown, hts⟩ (s_X12_nextToken_x l D t σ I_1223 J_1224 r_1714 rj rq H.size tg hSH hG.1 this hL_this hK_this w_1716 hR_w_1716 hL_w_1716 hK_w_1716 hN_w_1716 hT_w_1716) (cwV 0 hts (tw_V tw_832 tw_833 tw_834 tw_5 tw_835) rfl rfl rfl cv_yX12_nextToken_0 ⟨Nat.le_of_ble_eq_true rfl, Nat.le_of_ble_eq_true rfl⟩) ⟨pq_blind, pq_recv hK hP hL_this hK_this (by decide +kernel) rfl, pq_pre hK hN hP hD⟩ rfl rfl hl.1 rfl (lv_room (Nat.le_of_ble_eq_true rfl)) dX12_keys_119 ⟨Nat.le_of_ble_eq_true rfl, Nat.le_of_ble_eq_true rfl⟩) hD hS hA (fun σ1 μ1 H locs hw_1718 hP hD hS => ?_)
                  obtain ⟨I_1719, J_1720, hu_1721, hg_1722, hp_1724, hp_1725, hp_1726, hfn_1727, hfr_1728⟩ := hw_1718
                  obtain ⟨hu_1721a, hu_1721b⟩ := Prod.mk.inj hu_1721
                  rw [hu_1721a, hu_1721b] at hP hD
                  replace hF := hF.trans (bv_n hfn_1727)
                  replace hFr := fr_tr hFr hfr_1728
                  have tt_1729 : (I_1719 391 this).toInt ≤ 300 := by have z := hg_1722.1.1 391 this; exact z.2
                  have hG := GM.tr hG hg_1722 (by decide +kernel)
                  have tt_1730 : (I_1719 397 this).toInt = (I_1223 397 this).toInt := by rw [hg_1722.2.1 397 (by decide +kernel) (by decide +kernel)]
                  refine lv_aload_n hx hb dX12_keys_122 rfl (lv_at hl 1 rfl) ?_
                  refine pg_f (v := .int (I_1719 393 this)) (C := RX12) (T := TX12) (N := 31) hx hb hts (tw_i inlX12) hown hK hP hL_this hK_this (by decide +kernel) rfl 9 (by decide +kernel) (hts _ (tw_c tw_831)) rfl dX12_keys_123 ?_
                  replace hF := hF.trans (ap_n (vI_e (f := 393) hO_this (by decide +kernel)))
                  refine lv_bipush (v := 44) hx hb dX12_keys_126 (by decide +kernel) ?_
                  refine lv_icmp_ne (tgt := 135) hx hb dX12_keys_128 (by decide +kernel) (fun c_1732 => ?_) (fun c_1732 => ?_)
                  · replace hF := hF.trans (if_neg c_1732)
                    have tc_1736 : (I_1719 393 this).toInt ≠ 44 := fun q => c_1732 (Int32.toInt_inj.mp q)
                    refine lv_iconst (v := 0) hx hb dX12_keys_135 (by decide +kernel) ?_
                    refine lv_istore_n (lv' := [(2, .int 0), (3, .int 0), (0, .ref this), (1, .int a0)]) hx hb dX12_keys_136 rfl hl (by decide +kernel) rfl (fun ls hl => ?_)
                    refine lv_iload_n hx hb dX12_keys_137 rfl (lv_at hl 0 rfl) ?_
                    refine lv_if_eq (tgt := 145) hx hb dX12_keys_138 (by decide +kernel) (fun c_1737 => ?_) (fun c_1737 => absurd c_1737 (by decide +kernel))
                    refine lv_goto (tgt := 11) hx hb dX12_keys_145 (by decide +kernel) ?_
                    exact ih_1532 (0 : Int32) I_1719 J_1720 r_1714 _ _ _ (rg_w (rg_k (0 : Int32) 0 rfl) (by decide +kernel)) (by have k0 : (0 : Int32).toInt = 0 := rfl; omega) (fun j hj => by rw [er_1714, va_up_self, upd_off (by have z0 := clampE x_1707; omega)]; exact (show ∀ j : Nat, (j : Int) < a0.toInt + 4 ∨ a0.toInt + 12 ≤ (j : Int) → r_1706 this_a j = ri this_a j from (fun j hj => by rw [er_1706, va_up_self, upd_off (by have z0 := clampE x_1695; omega)]; exact (show ∀ j : Nat, (j : Int) < a0.toInt + 4 ∨ a0.toInt + 12 ≤ (j : Int) → ri_1225 this_a j = ri this_a j from hrel_1539) j hj)) j hj) (Int.le_of_lt (Int.lt_of_lt_of_le (tm_lt hkn_1715 hp_1724 hp_1725) hrel_1540)) (tm_ms hm_1529 (tm_lt hkn_1715 hp_1724 hp_1725) (tm_b ((hG.1.1 391 this).2))) hF hFr hG hP hD hS (lv_sub hl [2, 3, 0] rfl)
                  · replace hF := hF.trans (if_pos c_1732)
                    have tc_1738 : (I_1719 393 this).toInt = 44 := congrArg Int32.toInt c_1732
                    have h_1739 : rg (I_1719 393 this) 44 44 := rg_and (rg_full _) (rg_of_eq c_1732 (rg_k (44 : Int32) 44 rfl)) (by decide +kernel)
                    have uh_1739 := h_1739.1
                    have vh_1739 := h_1739.2
                    refine lv_iconst (v := 1) hx hb dX12_keys_131 (by decide +kernel) ?_
                    refine lv_goto (tgt := 136) hx hb dX12_keys_132 (by decide +kernel) ?_
                    refine lv_istore_n (lv' := [(2, .int 1), (3, .int 0), (0, .ref this), (1, .int a0)]) hx hb dX12_keys_136 rfl hl (by decide +kernel) rfl (fun ls hl => ?_)
                    refine lv_iload_n hx hb dX12_keys_137 rfl (lv_at hl 0 rfl) ?_
                    refine lv_if_eq (tgt := 145) hx hb dX12_keys_138 (by decide +kernel) (fun c_1740 => absurd c_1740 (by decide +kernel)) (fun c_1740 => ?_)
                    refine lv_aload_n hx hb dX12_keys_141 rfl (lv_at hl 2 rfl) ?_
                    have hkn_1741 : (I_1719 393 this).toInt ≠ 0 := by omega
                    refine pk_v (va_runV (As := []) (rest := []) ⟨hx, hb, hml, hown, hts⟩ (s_X12_nextToken_x l D t σ I_1719 J_1720 r_1714 rj rq H.size tg hSH hG.1 this hL_this hK_this w_1716 hR_w_1716 hL_w_1716 hK_w_1716 hN_w_1716 hT_w_1716) (cwV 0 hts (tw_V tw_832 tw_833 tw_834 tw_5 tw_835) rfl rfl rfl cv_yX12_nextToken_0 ⟨Nat.le_of_ble_eq_true rfl, Nat.le_of_ble_eq_true rfl⟩) ⟨pq_blind, pq_recv hK hP hL_this hK_this (by decide +kernel) rfl, pq_pre hK hN hP hD⟩ rfl rfl hl.1 rfl (lv_room (Nat.le_of_ble_eq_true rfl)) dX12_keys_142 ⟨Nat.le_of_ble_eq_true rfl, Nat.le_of_ble_eq_true rfl⟩) hD hS hA (fun σ1 μ1 H locs hw_1743 hP hD hS => ?_)
                    obtain ⟨I_1744, J_1745, hu_1746, hg_1747, hp_1749, hp_1750, hp_1751, hfn_1752, hfr_1753⟩ := hw_1743
                    obtain ⟨hu_1746a, hu_1746b⟩ := Prod.mk.inj hu_1746
                    rw [hu_1746a, hu_1746b] at hP hD
                    replace hF := hF.trans (bv_n hfn_1752)
                    replace hFr := fr_tr hFr hfr_1753
                    have tt_1754 : (I_1744 391 this).toInt ≤ 300 := by have z := hg_1747.1.1 391 this; exact z.2
                    have hG := GM.tr hG hg_1747 (by decide +kernel)
                    have tt_1755 : (I_1744 397 this).toInt = (I_1719 397 this).toInt := by rw [hg_1747.2.1 397 (by decide +kernel) (by decide +kernel)]
                    refine lv_goto (tgt := 11) hx hb dX12_keys_145 (by decide +kernel) ?_
                    exact ih_1532 (1 : Int32) I_1744 J_1745 r_1714 _ _ _ (rg_w (rg_k (1 : Int32) 1 rfl) (by decide +kernel)) (by have k0 : (1 : Int32).toInt = 1 := rfl; omega) (fun j hj => by rw [er_1714, va_up_self, upd_off (by have z0 := clampE x_1707; omega)]; exact (show ∀ j : Nat, (j : Int) < a0.toInt + 4 ∨ a0.toInt + 12 ≤ (j : Int) → r_1706 this_a j = ri this_a j from (fun j hj => by rw [er_1706, va_up_self, upd_off (by have z0 := clampE x_1695; omega)]; exact (show ∀ j : Nat, (j : Int) < a0.toInt + 4 ∨ a0.toInt + 12 ≤ (j : Int) → ri_1225 this_a j = ri this_a j from hrel_1539) j hj)) j hj) (Int.le_of_lt (Int.lt_of_lt_of_le (Int.lt_trans (tm_lt hkn_1741 hp_1749 hp_1750) (tm_lt hkn_1715 hp_1724 hp_1725)) hrel_1540)) (tm_ms hm_1529 (Int.lt_trans (tm_lt hkn_1741 hp_1749 hp_1750) (tm_lt hkn_1715 hp_1724 hp_1725)) (tm_b ((hG.1.1 391 this).2))) hF hFr hG hP hD hS (lv_sub hl [2, 3, 0] rfl)
                · replace hF := hF.trans (if_neg c_1680)
                  have tc_1756 : (x_1672).toInt < 0 := Int32.lt_iff_toInt_lt.mp (nle c_1680)
                  have h_1757 : rg x_1672 (-1) (-1) := rg_lt1 (nle c_1680) hr_1676 (rg_k (0 : Int32) 0 rfl) (by decide +kernel)
                  have uh_1757 := h_1757.1
                  have vh_1757 := h_1757.2
                  refine lv_iconst (v := 1) hx hb dX12_keys_70 (by decide +kernel) ?_
                  subst hQ
                  exact W.iret (v := 1) hx hb hr (fun t1 ht hW => ⟨⟨1, (σ, I_1223, J_1224, ri_1225, rj, rq), rfl, ⟨I_1223, J_1224, ri_1225, rfl, hG, (by omega), hrel_1539, hrel_1540, (hF0.symm.trans hF), hFr, (rg_w (rg_k (1 : Int32) 1 rfl) (by decide +kernel))⟩, by rw [ht]; exact hP, va_K.moved hW.alike hK, hD⟩, hS.F ht⟩) hS.2.2 dX12_keys_71
              · replace hF := hF.trans (if_pos c_1664)
                have tc_1758 : (x_1662).toInt = 4 := congrArg Int32.toInt c_1664
                have h_1759 : rg x_1662 4 4 := rg_and h_1663 (rg_of_eq c_1664 (rg_k (4 : Int32) 4 rfl)) (by decide +kernel)
                have uh_1759 := h_1759.1
                have vh_1759 := h_1759.2
                refine lv_iconst (v := 5) hx hb dX12_keys_53 (by decide +kernel) ?_
                subst hQ
                exact W.iret (v := 5) hx hb hr (fun t1 ht hW => ⟨⟨5, (σ, I_1223, J_1224, ri_1225, rj, rq), rfl, ⟨I_1223, J_1224, ri_1225, rfl, hG, (by omega), hrel_1539, hrel_1540, (hF0.symm.trans hF), hFr, (rg_w (rg_k (5 : Int32) 5 rfl) (by decide +kernel))⟩, by rw [ht]; exact hP, va_K.moved hW.alike hK, hD⟩, hS.F ht⟩) hS.2.2 dX12_keys_54
          · replace hF := hF.trans (if_pos c_1551)
            have tc_1760 : (I_1223 393 this).toInt = 45 := congrArg Int32.toInt c_1551
            have h_1761 : rg (I_1223 393 this) 45 45 := rg_and (rg_full _) (rg_of_eq c_1551 (rg_k (45 : Int32) 45 rfl)) (by decide +kernel)
            have uh_1761 := h_1761.1
            have vh_1761 := h_1761.2
            refine lv_iconst (v := 1) hx hb dX12_keys_24 (by decide +kernel) ?_
            refine lv_goto (tgt := 29) hx hb dX12_keys_25 (by decide +kernel) ?_
            refine lv_istore_n (lv' := [(3, .int 1), (0, .ref this), (1, .int a0), (2, .int x_1222)]) hx hb dX12_keys_29 rfl hl (by decide +kernel) rfl (fun ls hl => ?_)
            refine lv_iload_n hx hb dX12_keys_30 rfl (lv_at hl 0 rfl) ?_
            refine lv_if_ne (tgt := 41) hx hb dX12_keys_31 (by decide +kernel) (fun c_1762 => ?_) (fun c_1762 => absurd c_1762 (by decide +kernel))
            refine lv_aload_n hx hb dX12_keys_41 rfl (lv_at hl 1 rfl) ?_
            refine pg_f (v := .ref this_a) (C := RX12) (T := TX12) (N := 31) hx hb hts (tw_i inlX12) hown hK hP hL_this hK_this (by decide +kernel) rfl 0 (by decide +kernel) (hts _ (tw_c tw_176)) (pq_hv rfl hR_this_a) dX12_keys_42 ?_
            refine lv_iload_n hx hb dX12_keys_45 rfl (lv_at hl 2 rfl) ?_
            refine lv_iconst (v := 4) hx hb dX12_keys_46 (by decide +kernel) ?_
            refine lv_iadd hx hb dX12_keys_47 ?_
            refine lv_topi (fun x_1763 ex_1763 => ?_)
            replace hF := hF.trans (ap_n ex_1763)
            have h_1764 : rg x_1763 3725 12053 := rg_of_eq ex_1763 (rg_add h_1 (rg_k (4 : Int32) 4 rfl) (by decide +kernel))
            have uh_1764 := h_1764.1
            have vh_1764 := h_1764.2
            have tx_1763 : (x_1763).toInt = (a0).toInt + 4 := by rw [ex_1763]; exact i_add_rg (a2 := (a0).toInt) (b2 := 4) rfl rfl h_1 (rg_k (4 : Int32) 4 rfl) (by decide +kernel)
            refine pl_i hx hb hK hP hL_this_a hK_this_a hN_this_a (rg_in h_1764 (by decide +kernel)) dX12_keys_48 ?_
            refine lv_topi (fun x_1765 ex_1765 => ?_)
            replace hF := hF.trans (ap_n (vR_r hO_this_a (by decide +kernel) ex_1765))
            have ex_1765 : x_1765 = ri_1225 this_a (x_1763).toNatClampNeg := ex_1765
            have h_1766 : rg x_1765 0 4 := rg_of_eq ex_1765 (GM.z hG (by rw [hT_this_a]; decide) (zn_tc (t := (ri this_a 6).toNatClampNeg) (c := (I 397 this).toNatClampNeg) (k := 4) (by have z_i := clampE x_1763; have z_0 := clampE (ri this_a 6); have z_1 := clampE (I 397 this); omega) (rg_cl1 ⟨hc.2.2.2.1, hc.2.2.2.2⟩ (by decide +kernel)) (rg_cl1 ⟨hc.2.1, hc.2.2.1⟩ (by decide +kernel)) (by decide +kernel)) rfl)
            have uh_1766 := h_1766.1
            have vh_1766 := h_1766.2
            refine lv_iconst (v := 4) hx hb dX12_keys_49 (by decide +kernel) ?_
            refine lv_icmp_ne (tgt := 55) hx hb dX12_keys_50 (by decide +kernel) (fun c_1767 => ?_) (fun c_1767 => ?_)
            · replace hF := hF.trans (if_neg c_1767)
              have tc_1772 : (x_1765).toInt ≠ 4 := fun q => c_1767 (Int32.toInt_inj.mp q)
              have h_1773 : rg x_1765 0 3 := rg_ne c_1767 h_1766 4 rfl (by decide +kernel)
              have uh_1773 := h_1773.1
              have vh_1773 := h_1773.2
              refine lv_iload_n hx hb dX12_keys_55 rfl (lv_at hl 0 rfl) ?_
              refine lv_if_eq (tgt := 63) hx hb dX12_keys_56 (by decide +kernel) (fun c_1774 => absurd c_1774 (by decide +kernel)) (fun c_1774 => ?_)
              refine lv_aload_n hx hb dX12_keys_59 rfl (lv_at hl 1 rfl) ?_
              have hkn_1775 : (I_1223 393 this).toInt ≠ 0 := by omega
              obtain ⟨w_1776, hR_w_1776, hL_w_1776, hK_w_1776, hN_w_1776, hT_w_1776⟩ := sh_a hSH 387 (ci := 12) (kd := 13) (len := 300) rfl (by decide +kernel) hL_this hK_this
              have hO_w_1776 : w_1776 = vrow σ 387 this := vo_k (c := 12) hO_this hR_w_1776
              refine pk_v (va_runV (As := []) (rest := []) ⟨hx, hb, hml, hown, hts⟩ (s_X12_nextToken_x l D t σ I_1223 J_1224 ri_1225 rj rq H.size tg hSH hG.1 this hL_this hK_this w_1776 hR_w_1776 hL_w_1776 hK_w_1776 hN_w_1776 hT_w_1776) (cwV 0 hts (tw_V tw_832 tw_833 tw_834 tw_5 tw_835) rfl rfl rfl cv_yX12_nextToken_0 ⟨Nat.le_of_ble_eq_true rfl, Nat.le_of_ble_eq_true rfl⟩) ⟨pq_blind, pq_recv hK hP hL_this hK_this (by decide +kernel) rfl, pq_pre hK hN hP hD⟩ rfl rfl hl.1 rfl (lv_room (Nat.le_of_ble_eq_true rfl)) dX12_keys_60 ⟨Nat.le_of_ble_eq_true rfl, Nat.le_of_ble_eq_true rfl⟩) hD hS hA (fun σ1 μ1 H locs hw_1778 hP hD hS => ?_)
              obtain ⟨I_1779, J_1780, hu_1781, hg_1782, hp_1784, hp_1785, hp_1786, hfn_1787, hfr_1788⟩ := hw_1778
              obtain ⟨hu_1781a, hu_1781b⟩ := Prod.mk.inj hu_1781
              rw [hu_1781a, hu_1781b] at hP hD
              replace hF := hF.trans (bv_n hfn_1787)
              replace hFr := fr_tr hFr hfr_1788
              have tt_1789 : (I_1779 391 this).toInt ≤ 300 := by have z := hg_1782.1.1 391 this; exact z.2
              have hG := GM.tr hG hg_1782 (by decide +kernel)
              have tt_1790 : (I_1779 397 this).toInt = (I_1223 397 this).toInt := by rw [hg_1782.2.1 397 (by decide +kernel) (by decide +kernel)]
              refine lv_aload_n hx hb dX12_keys_63 rfl (lv_at hl 1 rfl) ?_
              refine pk_i (va_runV (As := []) (rest := []) ⟨hx, hb, hml, hown, hts⟩ (s_X12_nameOf_d l D t σ I_1779 J_1780 ri_1225 rj rq H.size tg hSH hG.1 this hL_this hK_this) (cwV 0 hts (tw_V tw_921 tw_922 tw_923 tw_5 tw_924) rfl rfl rfl cv_yX12_nameOf_0 ⟨Nat.le_of_ble_eq_true rfl, Nat.le_of_ble_eq_true rfl⟩) ⟨pq_blind, pq_recv hK hP hL_this hK_this (by decide +kernel) rfl, pq_pre hK hN hP hD⟩ rfl rfl hl.1 rfl (lv_room (Nat.le_of_ble_eq_true rfl)) dX12_keys_64 ⟨Nat.le_of_ble_eq_true rfl, Nat.le_of_ble_eq_true rfl⟩) hD hS hA (fun x_1791 σ1 μ1 H locs hw_1792 hP hD hS => ?_)
              obtain ⟨hu_1793, hp_1796, hfn_1797, hr_1795⟩ := hw_1792
              obtain ⟨hu_1793a, hu_1793b⟩ := Prod.mk.inj hu_1793
              rw [hu_1793a, hu_1793b] at hP hD
              replace hF := hF.trans (bn_n hfn_1797)
              refine lv_if_ge (tgt := 72) hx hb dX12_keys_67 (by decide +kernel) (fun c_1799 => ?_) (fun c_1799 => ?_)
              · replace hF := hF.trans (if_pos c_1799)
                have tc_1804 : 0 ≤ (x_1791).toInt := Int32.le_iff_toInt_le.mp c_1799
                have h_1805 : rg x_1791 0 5 := rg_le2 c_1799 (rg_k (0 : Int32) 0 rfl) hr_1795 (by decide +kernel)
                have uh_1805 := h_1805.1
                have vh_1805 := h_1805.2
                refine lv_aload_n hx hb dX12_keys_72 rfl (lv_at hl 1 rfl) ?_
                refine pg_f (v := .ref this_a) (C := RX12) (T := TX12) (N := 31) hx hb hts (tw_i inlX12) hown hK hP hL_this hK_this (by decide +kernel) rfl 0 (by decide +kernel) (hts _ (tw_c tw_176)) (pq_hv rfl hR_this_a) dX12_keys_73 ?_
                refine lv_iload_n hx hb dX12_keys_76 rfl (lv_at hl 2 rfl) ?_
                refine lv_iconst (v := 5) hx hb dX12_keys_77 (by decide +kernel) ?_
                refine lv_iadd hx hb dX12_keys_78 ?_
                refine lv_topi (fun x_1806 ex_1806 => ?_)
                replace hF := hF.trans (ap_n ex_1806)
                have h_1807 : rg x_1806 3726 12054 := rg_of_eq ex_1806 (rg_add h_1 (rg_k (5 : Int32) 5 rfl) (by decide +kernel))
                have uh_1807 := h_1807.1
                have vh_1807 := h_1807.2
                have tx_1806 : (x_1806).toInt = (a0).toInt + 5 := by rw [ex_1806]; exact i_add_rg (a2 := (a0).toInt) (b2 := 5) rfl rfl h_1 (rg_k (5 : Int32) 5 rfl) (by decide +kernel)
                refine lv_aload_n hx hb dX12_keys_79 rfl (lv_at hl 1 rfl) ?_
                refine pg_f (v := .ref this_a) (C := RX12) (T := TX12) (N := 31) hx hb hts (tw_i inlX12) hown hK hP hL_this hK_this (by decide +kernel) rfl 0 (by decide +kernel) (hts _ (tw_c tw_176)) (pq_hv rfl hR_this_a) dX12_keys_80 ?_
                refine lv_iload_n hx hb dX12_keys_83 rfl (lv_at hl 2 rfl) ?_
                refine lv_iconst (v := 4) hx hb dX12_keys_84 (by decide +kernel) ?_
                refine lv_iadd hx hb dX12_keys_85 ?_
                refine lv_topi (fun x_1808 ex_1808 => ?_)
                replace hF := hF.trans (ap_n ex_1808)
                have h_1809 : rg x_1808 3725 12053 := rg_of_eq ex_1808 (rg_add h_1 (rg_k (4 : Int32) 4 rfl) (by decide +kernel))
                have uh_1809 := h_1809.1
                have vh_1809 := h_1809.2
                have tx_1808 : (x_1808).toInt = (a0).toInt + 4 := by rw [ex_1808]; exact i_add_rg (a2 := (a0).toInt) (b2 := 4) rfl rfl h_1 (rg_k (4 : Int32) 4 rfl) (by decide +kernel)
                refine pl_i hx hb hK hP hL_this_a hK_this_a hN_this_a (rg_in h_1809 (by decide +kernel)) dX12_keys_86 ?_
                refine lv_topi (fun x_1810 ex_1810 => ?_)
                replace hF := hF.trans (ap_n (vR_r hO_this_a (by decide +kernel) ex_1810))
                have ex_1810 : x_1810 = ri_1225 this_a (x_1808).toNatClampNeg := ex_1810
                have h_1811 : rg x_1810 0 4 := rg_of_eq ex_1810 (GM.z hG (by rw [hT_this_a]; decide) (zn_tc (t := (ri this_a 6).toNatClampNeg) (c := (I 397 this).toNatClampNeg) (k := 4) (by have z_i := clampE x_1808; have z_0 := clampE (ri this_a 6); have z_1 := clampE (I 397 this); omega) (rg_cl1 ⟨hc.2.2.2.1, hc.2.2.2.2⟩ (by decide +kernel)) (rg_cl1 ⟨hc.2.1, hc.2.2.1⟩ (by decide +kernel)) (by decide +kernel)) rfl)
                have uh_1811 := h_1811.1
                have vh_1811 := h_1811.2
                have hzz : (x_1810).toInt = (x_1765).toInt := congrArg Int32.toInt (show x_1810 = x_1765 from by rw [show x_1810 = _ from ex_1810, show x_1765 = _ from ex_1765]; exact congrArg (ri_1225 this_a) (by have z0 := clampE x_1808; have z1 := clampE x_1763; omega))
                have h_1812 : rg x_1765 0 3 := ⟨by omega, by omega⟩
                have uh_1812 := h_1812.1
                have vh_1812 := h_1812.2
                have h_1813 : rg x_1810 0 3 := ⟨by omega, by omega⟩
                have uh_1813 := h_1813.1
                have vh_1813 := h_1813.2
                refine lv_iadd hx hb dX12_keys_87 ?_
                refine lv_topi (fun x_1814 ex_1814 => ?_)
                replace hF := hF.trans (ap_n ex_1814)
                have h_1815 : rg x_1814 3726 12057 := rg_of_eq ex_1814 (rg_add h_1807 h_1813 (by decide +kernel))
                have uh_1815 := h_1815.1
                have vh_1815 := h_1815.2
                have tx_1814 : (x_1814).toInt = (x_1806).toInt + (x_1810).toInt := by rw [ex_1814]; exact i_add_rg (a2 := (x_1806).toInt) (b2 := (x_1810).toInt) rfl rfl h_1807 h_1813 (by decide +kernel)
                refine lv_iload_n hx hb dX12_keys_88 rfl (lv_at hl 0 rfl) ?_
                refine lv_if_eq (tgt := 101) hx hb dX12_keys_89 (by decide +kernel) (fun c_1816 => absurd c_1816 (by decide +kernel)) (fun c_1816 => ?_)
                refine lv_iconst (v := (-1)) hx hb dX12_keys_92 (by decide +kernel) ?_
                refine lv_aload_n hx hb dX12_keys_93 rfl (lv_at hl 1 rfl) ?_
                refine pk_i (va_runV (As := []) (rest := [.int (-1), .int x_1814, .ref this_a]) ⟨hx, hb, hml, hown, hts⟩ (s_X12_nameOf_d l D t σ I_1779 J_1780 ri_1225 rj rq H.size tg hSH hG.1 this hL_this hK_this) (cwV 0 hts (tw_V tw_921 tw_922 tw_923 tw_5 tw_924) rfl rfl rfl cv_yX12_nameOf_0 ⟨Nat.le_of_ble_eq_true rfl, Nat.le_of_ble_eq_true rfl⟩) ⟨pq_blind, pq_recv hK hP hL_this hK_this (by decide +kernel) rfl, pq_pre hK hN hP hD⟩ rfl rfl hl.1 rfl (lv_room (Nat.le_of_ble_eq_true rfl)) dX12_keys_94 ⟨Nat.le_of_ble_eq_true rfl, Nat.le_of_ble_eq_true rfl⟩) hD hS hA (fun x_1817 σ1 μ1 H locs hw_1818 hP hD hS => ?_)
                obtain ⟨hu_1819, hp_1822, hfn_1823, hr_1821⟩ := hw_1818
                obtain ⟨hu_1819a, hu_1819b⟩ := Prod.mk.inj hu_1819
                rw [hu_1819a, hu_1819b] at hP hD
                replace hF := hF.trans (bn_n hfn_1823)
                refine lv_isub hx hb dX12_keys_97 ?_
                refine lv_topi (fun x_1825 ex_1825 => ?_)
                replace hF := hF.trans (ap_n ex_1825)
                have h_1826 : rg x_1825 (-6) 0 := rg_of_eq ex_1825 (rg_sub (rg_k (-1 : Int32) (-1) rfl) hr_1821 (by decide +kernel))
                have uh_1826 := h_1826.1
                have vh_1826 := h_1826.2
                have tx_1825 : (x_1825).toInt = (-1) - (x_1817).toInt := by rw [ex_1825]; exact i_sub_rg (a2 := (-1)) (b2 := (x_1817).toInt) rfl rfl (rg_k (-1 : Int32) (-1) rfl) hr_1821 (by decide +kernel)
                refine lv_goto (tgt := 105) hx hb dX12_keys_98 (by decide +kernel) ?_
                refine pt_i hx hb hK hP hD hS hL_this_a hK_this_a hN_this_a (rg_in h_1815 (by decide +kernel)) dX12_keys_105 (fun r_1827 H locs er_1827 hP hD hS => ?_)
                replace hFr := fr_R hFr hO_this_a (by decide +kernel) er_1827
                replace hF := hF.trans (ap_n (vR_st hVT hO_this_a (by decide +kernel) er_1827))
                have hk4 : 0 ≤ (x_1810).toInt ∧ (x_1810).toInt ≤ 3 := ⟨by omega, by omega⟩
                have hG := GM.wth hG hT_this_a (by decide +kernel) er_1827 (I 397 this).toNatClampNeg (by omega) (n := (ri this_a 6).toNatClampNeg) (by omega) (k := 5 + (x_1810).toNatClampNeg) (by have z_i := clampE x_1814; have z_k := clampE x_1810; omega) (by have z_k := clampE x_1810; omega) (by have z6 := congrArg Int32.toInt (hG.2.2.1 this_a hT_this_a 6 (by decide +kernel) (by decide +kernel)); have z_i := clampE x_1814; omega) (by decide +kernel)
                refine lv_aload_n hx hb dX12_keys_106 rfl (lv_at hl 1 rfl) ?_
                refine pg_f (v := .ref this_a) (C := RX12) (T := TX12) (N := 31) hx hb hts (tw_i inlX12) hown hK hP hL_this hK_this (by decide +kernel) rfl 0 (by decide +kernel) (hts _ (tw_c tw_176)) (pq_hv rfl hR_this_a) dX12_keys_107 ?_
                refine lv_iload_n hx hb dX12_keys_110 rfl (lv_at hl 2 rfl) ?_
                refine lv_iconst (v := 4) hx hb dX12_keys_111 (by decide +kernel) ?_
                refine lv_iadd hx hb dX12_keys_112 ?_
                refine lv_topi (fun x_1828 ex_1828 => ?_)
                replace hF := hF.trans (ap_n ex_1828)
                have h_1829 : rg x_1828 3725 12053 := rg_of_eq ex_1828 (rg_add h_1 (rg_k (4 : Int32) 4 rfl) (by decide +kernel))
                have uh_1829 := h_1829.1
                have vh_1829 := h_1829.2
                have tx_1828 : (x_1828).toInt = (a0).toInt + 4 := by rw [ex_1828]; exact i_add_rg (a2 := (a0).toInt) (b2 := 4) rfl rfl h_1 (rg_k (4 : Int32) 4 rfl) (by decide +kernel)
                refine lv_dup2_11 hx hb dX12_keys_113 rfl rfl ?_
                refine pl_i hx hb hK hP hL_this_a hK_this_a hN_this_a (rg_in h_1829 (by decide +kernel)) dX12_keys_114 ?_
                refine lv_topi (fun x_1830 ex_1830 => ?_)
                replace hF := hF.trans (ap_n (vR_r hO_this_a (by decide +kernel) ex_1830))
                have ex_1830 : x_1830 = r_1827 this_a (x_1828).toNatClampNeg := ex_1830
                have h_1831 : rg x_1830 0 4 := rg_of_eq ex_1830 (GM.z hG (by rw [hT_this_a]; decide) (zn_tc (t := (ri this_a 6).toNatClampNeg) (c := (I 397 this).toNatClampNeg) (k := 4) (by have z_i := clampE x_1828; have z_0 := clampE (ri this_a 6); have z_1 := clampE (I 397 this); omega) (rg_cl1 ⟨hc.2.2.2.1, hc.2.2.2.2⟩ (by decide +kernel)) (rg_cl1 ⟨hc.2.1, hc.2.2.1⟩ (by decide +kernel)) (by decide +kernel)) rfl)
                have uh_1831 := h_1831.1
                have vh_1831 := h_1831.2
                have hkz : (x_1830).toInt = (x_1810).toInt := by rw [show x_1830 = x_1810 from by rw [ex_1830, er_1827, va_up_self, upd_off (by have z0 := clampE x_1828; have z1 := clampE x_1814; have z2 := clampE x_1810; omega), ex_1810]; exact congrArg (ri_1225 this_a) (by have z0 := clampE x_1828; have z1 := clampE x_1808; omega)]
                have h_1832 : rg x_1830 0 3 := ⟨by omega, by omega⟩
                have uh_1832 := h_1832.1
                have vh_1832 := h_1832.2
                refine lv_iconst (v := 1) hx hb dX12_keys_115 (by decide +kernel) ?_
                refine lv_iadd hx hb dX12_keys_116 ?_
                refine lv_topi (fun x_1833 ex_1833 => ?_)
                replace hF := hF.trans (ap_n ex_1833)
                have h_1834 : rg x_1833 1 4 := rg_of_eq ex_1833 (rg_add h_1832 (rg_k (1 : Int32) 1 rfl) (by decide +kernel))
                have uh_1834 := h_1834.1
                have vh_1834 := h_1834.2
                have tx_1833 : (x_1833).toInt = (x_1830).toInt + 1 := by rw [ex_1833]; exact i_add_rg (a2 := (x_1830).toInt) (b2 := 1) rfl rfl h_1832 (rg_k (1 : Int32) 1 rfl) (by decide +kernel)
                refine pt_i hx hb hK hP hD hS hL_this_a hK_this_a hN_this_a (rg_in h_1829 (by decide +kernel)) dX12_keys_117 (fun r_1835 H locs er_1835 hP hD hS => ?_)
                replace hFr := fr_R hFr hO_this_a (by decide +kernel) er_1835
                replace hF := hF.trans (ap_n (vR_st hVT hO_this_a (by decide +kernel) er_1835))
                have hG := GM.wt hG hT_this_a (by decide +kernel) er_1835 (zn_tc (t := (ri this_a 6).toNatClampNeg) (c := (I 397 this).toNatClampNeg) (k := 4) (by have z_i := clampE x_1828; have z_0 := clampE (ri this_a 6); have z_1 := clampE (I 397 this); omega) (rg_cl1 ⟨hc.2.2.2.1, hc.2.2.2.2⟩ (by decide +kernel)) (rg_cl1 ⟨hc.2.1, hc.2.2.1⟩ (by decide +kernel)) (by decide +kernel)) rfl (rg_w h_1834 (by decide +kernel)) (by have z6 := congrArg Int32.toInt (hG.2.2.1 this_a hT_this_a 6 (by decide +kernel) (by decide +kernel)); have z_i := clampE x_1828; omega) (by decide +kernel)
                refine lv_aload_n hx hb dX12_keys_118 rfl (lv_at hl 1 rfl) ?_
                have hkn_1836 : (I_1779 393 this).toInt ≠ 0 := fun q => absurd (q.symm.trans (hp_1796.1 (by omega)).1) (by decide +kernel)
                refine pk_v (va_runV (As := []) (rest := []) ⟨hx, hb, hml, hown, hts⟩ (s_X12_nextToken_x l D t σ I_1779 J_1780 r_1835 rj rq H.size tg hSH hG.1 this hL_this hK_this w_1776 hR_w_1776 hL_w_1776 hK_w_1776 hN_w_1776 hT_w_1776) (cwV 0 hts (tw_V tw_832 tw_833 tw_834 tw_5 tw_835) rfl rfl rfl cv_yX12_nextToken_0 ⟨Nat.le_of_ble_eq_true rfl, Nat.le_of_ble_eq_true rfl⟩) ⟨pq_blind, pq_recv hK hP hL_this hK_this (by decide +kernel) rfl, pq_pre hK hN hP hD⟩ rfl rfl hl.1 rfl (lv_room (Nat.le_of_ble_eq_true rfl)) dX12_keys_119 ⟨Nat.le_of_ble_eq_true rfl, Nat.le_of_ble_eq_true rfl⟩) hD hS hA (fun σ1 μ1 H locs hw_1838 hP hD hS => ?_)
                obtain ⟨I_1839, J_1840, hu_1841, hg_1842, hp_1844, hp_1845, hp_1846, hfn_1847, hfr_1848⟩ := hw_1838
                obtain ⟨hu_1841a, hu_1841b⟩ := Prod.mk.inj hu_1841
                rw [hu_1841a, hu_1841b] at hP hD
                replace hF := hF.trans (bv_n hfn_1847)
                replace hFr := fr_tr hFr hfr_1848
                have tt_1849 : (I_1839 391 this).toInt ≤ 300 := by have z := hg_1842.1.1 391 this; exact z.2
                have hG := GM.tr hG hg_1842 (by decide +kernel)
                have tt_1850 : (I_1839 397 this).toInt = (I_1779 397 this).toInt := by rw [hg_1842.2.1 397 (by decide +kernel) (by decide +kernel)]
                refine lv_aload_n hx hb dX12_keys_122 rfl (lv_at hl 1 rfl) ?_
                refine pg_f (v := .int (I_1839 393 this)) (C := RX12) (T := TX12) (N := 31) hx hb hts (tw_i inlX12) hown hK hP hL_this hK_this (by decide +kernel) rfl 9 (by decide +kernel) (hts _ (tw_c tw_831)) rfl dX12_keys_123 ?_
                replace hF := hF.trans (ap_n (vI_e (f := 393) hO_this (by decide +kernel)))
                refine lv_bipush (v := 44) hx hb dX12_keys_126 (by decide +kernel) ?_
                refine lv_icmp_ne (tgt := 135) hx hb dX12_keys_128 (by decide +kernel) (fun c_1852 => ?_) (fun c_1852 => ?_)
                · replace hF := hF.trans (if_neg c_1852)
                  have tc_1856 : (I_1839 393 this).toInt ≠ 44 := fun q => c_1852 (Int32.toInt_inj.mp q)
                  refine lv_iconst (v := 0) hx hb dX12_keys_135 (by decide +kernel) ?_
                  refine lv_istore_n (lv' := [(2, .int 0), (3, .int 1), (0, .ref this), (1, .int a0)]) hx hb dX12_keys_136 rfl hl (by decide +kernel) rfl (fun ls hl => ?_)
                  refine lv_iload_n hx hb dX12_keys_137 rfl (lv_at hl 0 rfl) ?_
                  refine lv_if_eq (tgt := 145) hx hb dX12_keys_138 (by decide +kernel) (fun c_1857 => ?_) (fun c_1857 => absurd c_1857 (by decide +kernel))
                  refine lv_goto (tgt := 11) hx hb dX12_keys_145 (by decide +kernel) ?_
                  exact ih_1532 (0 : Int32) I_1839 J_1840 r_1835 _ _ _ (rg_w (rg_k (0 : Int32) 0 rfl) (by decide +kernel)) (by have k0 : (0 : Int32).toInt = 0 := rfl; omega) (fun j hj => by rw [er_1835, va_up_self, upd_off (by have z0 := clampE x_1828; omega)]; exact (show ∀ j : Nat, (j : Int) < a0.toInt + 4 ∨ a0.toInt + 12 ≤ (j : Int) → r_1827 this_a j = ri this_a j from (fun j hj => by rw [er_1827, va_up_self, upd_off (by have z0 := clampE x_1814; omega)]; exact (show ∀ j : Nat, (j : Int) < a0.toInt + 4 ∨ a0.toInt + 12 ≤ (j : Int) → ri_1225 this_a j = ri this_a j from hrel_1539) j hj)) j hj) (Int.le_of_lt (Int.lt_of_lt_of_le (Int.lt_trans (tm_lt hkn_1836 hp_1844 hp_1845) (tm_lt hkn_1775 hp_1784 hp_1785)) hrel_1540)) (tm_ms hm_1529 (Int.lt_trans (tm_lt hkn_1836 hp_1844 hp_1845) (tm_lt hkn_1775 hp_1784 hp_1785)) (tm_b ((hG.1.1 391 this).2))) hF hFr hG hP hD hS (lv_sub hl [2, 3, 0] rfl)
                · replace hF := hF.trans (if_pos c_1852)
                  have tc_1858 : (I_1839 393 this).toInt = 44 := congrArg Int32.toInt c_1852
                  have h_1859 : rg (I_1839 393 this) 44 44 := rg_and (rg_full _) (rg_of_eq c_1852 (rg_k (44 : Int32) 44 rfl)) (by decide +kernel)
                  have uh_1859 := h_1859.1
                  have vh_1859 := h_1859.2
                  refine lv_iconst (v := 1) hx hb dX12_keys_131 (by decide +kernel) ?_
                  refine lv_goto (tgt := 136) hx hb dX12_keys_132 (by decide +kernel) ?_
                  refine lv_istore_n (lv' := [(2, .int 1), (3, .int 1), (0, .ref this), (1, .int a0)]) hx hb dX12_keys_136 rfl hl (by decide +kernel) rfl (fun ls hl => ?_)
                  refine lv_iload_n hx hb dX12_keys_137 rfl (lv_at hl 0 rfl) ?_
                  refine lv_if_eq (tgt := 145) hx hb dX12_keys_138 (by decide +kernel) (fun c_1860 => absurd c_1860 (by decide +kernel)) (fun c_1860 => ?_)
                  refine lv_aload_n hx hb dX12_keys_141 rfl (lv_at hl 2 rfl) ?_
                  have hkn_1861 : (I_1839 393 this).toInt ≠ 0 := by omega
                  refine pk_v (va_runV (As := []) (rest := []) ⟨hx, hb, hml, hown, hts⟩ (s_X12_nextToken_x l D t σ I_1839 J_1840 r_1835 rj rq H.size tg hSH hG.1 this hL_this hK_this w_1776 hR_w_1776 hL_w_1776 hK_w_1776 hN_w_1776 hT_w_1776) (cwV 0 hts (tw_V tw_832 tw_833 tw_834 tw_5 tw_835) rfl rfl rfl cv_yX12_nextToken_0 ⟨Nat.le_of_ble_eq_true rfl, Nat.le_of_ble_eq_true rfl⟩) ⟨pq_blind, pq_recv hK hP hL_this hK_this (by decide +kernel) rfl, pq_pre hK hN hP hD⟩ rfl rfl hl.1 rfl (lv_room (Nat.le_of_ble_eq_true rfl)) dX12_keys_142 ⟨Nat.le_of_ble_eq_true rfl, Nat.le_of_ble_eq_true rfl⟩) hD hS hA (fun σ1 μ1 H locs hw_1863 hP hD hS => ?_)
                  obtain ⟨I_1864, J_1865, hu_1866, hg_1867, hp_1869, hp_1870, hp_1871, hfn_1872, hfr_1873⟩ := hw_1863
                  obtain ⟨hu_1866a, hu_1866b⟩ := Prod.mk.inj hu_1866
                  rw [hu_1866a, hu_1866b] at hP hD
                  replace hF := hF.trans (bv_n hfn_1872)
                  replace hFr := fr_tr hFr hfr_1873
                  have tt_1874 : (I_1864 391 this).toInt ≤ 300 := by have z := hg_1867.1.1 391 this; exact z.2
                  have hG := GM.tr hG hg_1867 (by decide +kernel)
                  have tt_1875 : (I_1864 397 this).toInt = (I_1839 397 this).toInt := by rw [hg_1867.2.1 397 (by decide +kernel) (by decide +kernel)]
                  refine lv_goto (tgt := 11) hx hb dX12_keys_145 (by decide +kernel) ?_
                  exact ih_1532 (1 : Int32) I_1864 J_1865 r_1835 _ _ _ (rg_w (rg_k (1 : Int32) 1 rfl) (by decide +kernel)) (by have k0 : (1 : Int32).toInt = 1 := rfl; omega) (fun j hj => by rw [er_1835, va_up_self, upd_off (by have z0 := clampE x_1828; omega)]; exact (show ∀ j : Nat, (j : Int) < a0.toInt + 4 ∨ a0.toInt + 12 ≤ (j : Int) → r_1827 this_a j = ri this_a j from (fun j hj => by rw [er_1827, va_up_self, upd_off (by have z0 := clampE x_1814; omega)]; exact (show ∀ j : Nat, (j : Int) < a0.toInt + 4 ∨ a0.toInt + 12 ≤ (j : Int) → ri_1225 this_a j = ri this_a j from hrel_1539) j hj)) j hj) (Int.le_of_lt (Int.lt_of_lt_of_le (Int.lt_trans (tm_lt hkn_1861 hp_1869 hp_1870) (Int.lt_trans (tm_lt hkn_1836 hp_1844 hp_1845) (tm_lt hkn_1775 hp_1784 hp_1785))) hrel_1540)) (tm_ms hm_1529 (Int.lt_trans (tm_lt hkn_1861 hp_1869 hp_1870) (Int.lt_trans (tm_lt hkn_1836 hp_1844 hp_1845) (tm_lt hkn_1775 hp_1784 hp_1785))) (tm_b ((hG.1.1 391 this).2))) hF hFr hG hP hD hS (lv_sub hl [2, 3, 0] rfl)
              · replace hF := hF.trans (if_neg c_1799)
                have tc_1876 : (x_1791).toInt < 0 := Int32.lt_iff_toInt_lt.mp (nle c_1799)
                have h_1877 : rg x_1791 (-1) (-1) := rg_lt1 (nle c_1799) hr_1795 (rg_k (0 : Int32) 0 rfl) (by decide +kernel)
                have uh_1877 := h_1877.1
                have vh_1877 := h_1877.2
                refine lv_iconst (v := 1) hx hb dX12_keys_70 (by decide +kernel) ?_
                subst hQ
                exact W.iret (v := 1) hx hb hr (fun t1 ht hW => ⟨⟨1, (σ, I_1779, J_1780, ri_1225, rj, rq), rfl, ⟨I_1779, J_1780, ri_1225, rfl, hG, (by omega), hrel_1539, (Int.le_of_lt (Int.lt_of_lt_of_le (tm_lt hkn_1775 hp_1784 hp_1785) hrel_1540)), (hF0.symm.trans hF), hFr, (rg_w (rg_k (1 : Int32) 1 rfl) (by decide +kernel))⟩, by rw [ht]; exact hP, va_K.moved hW.alike hK, hD⟩, hS.F ht⟩) hS.2.2 dX12_keys_71
            · replace hF := hF.trans (if_pos c_1767)
              have tc_1878 : (x_1765).toInt = 4 := congrArg Int32.toInt c_1767
              have h_1879 : rg x_1765 4 4 := rg_and h_1766 (rg_of_eq c_1767 (rg_k (4 : Int32) 4 rfl)) (by decide +kernel)
              have uh_1879 := h_1879.1
              have vh_1879 := h_1879.2
              refine lv_iconst (v := 5) hx hb dX12_keys_53 (by decide +kernel) ?_
              subst hQ
              exact W.iret (v := 5) hx hb hr (fun t1 ht hW => ⟨⟨5, (σ, I_1223, J_1224, ri_1225, rj, rq), rfl, ⟨I_1223, J_1224, ri_1225, rfl, hG, (by omega), hrel_1539, hrel_1540, (hF0.symm.trans hF), hFr, (rg_w (rg_k (5 : Int32) 5 rfl) (by decide +kernel))⟩, by rw [ht]; exact hP, va_K.moved hW.alike hK, hD⟩, hS.F ht⟩) hS.2.2 dX12_keys_54
    replace hF := hF.trans (ap_n (vI_e (f := 391) hO_this (by decide +kernel)))
    replace hF := hF.trans (ap_n (vI_e (f := 393) hO_this (by decide +kernel)))
    exact L_1531 _ (1 : Int32) I J r_4 _ _ _ (rg_w (rg_k (1 : Int32) 1 rfl) (by decide +kernel)) (by have k0 : (1 : Int32).toInt = 1 := rfl; omega) (fun j hj => by rw [er_4, va_up_self, upd_off (by have z0 := clampE x_2; omega)]) (Int.le_refl _) (Nat.lt_succ_self _) hF hFr hG hP hD hS (lv_sub hl [1, 2, 0] rfl)
  exact go _ _ _ hP hD hS hl
theorem PBz_all {t w o s k : Int} {f f0 : Nat → Int32} {bb : Nat} {fr va tb nn K : Int} (h : PBz t w o s k f bb f0 fr va tb nn K) : o = nn ∧ 0 ≤ fr ∧ fr ≤ w ∧ w + K ≤ s ∧ s ≤ 300 ∧ 0 ≤ K := ⟨h.2.2.2.2.2.2.1.1, h.2.1.2.1, h.2.1.2.2, h.2.2.2.2.2.2.2.1, h.2.2.2.2.2.2.2.2.2, h.2.2.2.2.2.2.1.2.2.2⟩
