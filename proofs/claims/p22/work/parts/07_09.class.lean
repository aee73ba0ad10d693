theorem dX0_takeLot_0 : decode cX0_takeLot 0 = .ok (.iconst 0, 1) := oc_3 (by decide +kernel)
theorem dX0_takeLot_1 : decode cX0_takeLot 1 = .ok (.istore_n 2, 1) := oc_61 (by decide +kernel)
theorem dX0_takeLot_2 : decode cX0_takeLot 2 = .ok (.iload_n 2, 1) := oc_28 (by decide +kernel)
theorem dX0_takeLot_3 : decode cX0_takeLot 3 = .ok (.aload_n 0, 1) := oc_42 (by decide +kernel)
theorem dX0_takeLot_4 : decode cX0_takeLot 4 = .ok (.getfield 62, 3) := oc_180 (a := 0) (b := 62) (by decide +kernel)
theorem dX0_takeLot_7 : decode cX0_takeLot 7 = .ok (.if_icmp .ge 31, 3) := oc_162 (a := 0) (b := 31) (by decide +kernel)
theorem dX0_takeLot_38 : decode cX0_takeLot 38 = .ok (.iconst (-1), 1) := oc_2 (by decide +kernel)
theorem dX0_takeLot_39 : decode cX0_takeLot 39 = .ok (.ireturn, 1) := oc_172 (by decide +kernel)
theorem dX0_takeLot_10 : decode cX0_takeLot 10 = .ok (.aload_n 0, 1) := oc_42 (by decide +kernel)
theorem tw_121 : Cond.fieldLink RX0 45 "RingsUnder$Folk" "free" "[I" ∈ wsL_law := sg_6 _ (List.mem_of_getElem? (i := 1) rfl)
theorem dX0_takeLot_11 : decode cX0_takeLot 11 = .ok (.getfield 45, 3) := oc_180 (a := 0) (b := 45) (by decide +kernel)
theorem dX0_takeLot_14 : decode cX0_takeLot 14 = .ok (.iload_n 2, 1) := oc_28 (by decide +kernel)
theorem dX0_takeLot_15 : decode cX0_takeLot 15 = .ok (.iaload, 1) := oc_46 (by decide +kernel)
theorem dX0_takeLot_16 : decode cX0_takeLot 16 = .ok (.iload_n 1, 1) := oc_27 (by decide +kernel)
theorem dX0_takeLot_17 : decode cX0_takeLot 17 = .ok (.if_icmp .lt 15, 3) := oc_161 (a := 0) (b := 15) (by decide +kernel)
theorem dX0_takeLot_32 : decode cX0_takeLot 32 = .ok (.iinc 2 1, 3) := oc_132 (b := 1) (by decide +kernel)
theorem dX0_takeLot_35 : decode cX0_takeLot 35 = .ok (.goto (-33), 3) := oc_167 (a := 255) (b := 223) (by decide +kernel)
theorem dX0_takeLot_20 : decode cX0_takeLot 20 = .ok (.aload_n 0, 1) := oc_42 (by decide +kernel)
theorem dX0_takeLot_21 : decode cX0_takeLot 21 = .ok (.getfield 45, 3) := oc_180 (a := 0) (b := 45) (by decide +kernel)
theorem dX0_takeLot_24 : decode cX0_takeLot 24 = .ok (.iload_n 2, 1) := oc_28 (by decide +kernel)
theorem dX0_takeLot_25 : decode cX0_takeLot 25 = .ok (.dup2, 1) := oc_92 (by decide +kernel)
theorem dX0_takeLot_26 : decode cX0_takeLot 26 = .ok (.iaload, 1) := oc_46 (by decide +kernel)
theorem dX0_takeLot_27 : decode cX0_takeLot 27 = .ok (.iload_n 1, 1) := oc_27 (by decide +kernel)
theorem dX0_takeLot_28 : decode cX0_takeLot 28 = .ok (.isub, 1) := oc_100 (by decide +kernel)
theorem dX0_takeLot_29 : decode cX0_takeLot 29 = .ok (.iastore, 1) := oc_79 (by decide +kernel)
theorem dX0_takeLot_30 : decode cX0_takeLot 30 = .ok (.iload_n 2, 1) := oc_28 (by decide +kernel)
theorem dX0_takeLot_31 : decode cX0_takeLot 31 = .ok (.ireturn, 1) := oc_172 (by decide +kernel)
theorem dX1_copyFrom_0 : decode cX1_copyFrom 0 = .ok (.aload_n 0, 1) := oc_42 (by decide +kernel)
theorem dX1_copyFrom_1 : decode cX1_copyFrom 1 = .ok (.aload_n 1, 1) := oc_43 (by decide +kernel)
theorem tw_1393 : Cond.fieldLink RX1 19 "RingsUnder$Graves" "count" "I" ∈ wsL_law := sg_59 _ (List.mem_of_getElem? (i := 1) rfl)
theorem dX1_copyFrom_2 : decode cX1_copyFrom 2 = .ok (.getfield 19, 3) := oc_180 (a := 0) (b := 19) (by decide +kernel)
theorem dX1_copyFrom_5 : decode cX1_copyFrom 5 = .ok (.putfield 19, 3) := oc_181 (a := 0) (b := 19) (by decide +kernel)
theorem dX1_copyFrom_8 : decode cX1_copyFrom 8 = .ok (.aload_n 1, 1) := oc_43 (by decide +kernel)
theorem tw_137 : Cond.fieldLink RX1 9 "RingsUnder$Graves" "cell" "[I" ∈ wsL_law := sg_6 _ (List.mem_of_getElem? (i := 17) rfl)
theorem dX1_copyFrom_9 : decode cX1_copyFrom 9 = .ok (.getfield 9, 3) := oc_180 (a := 0) (b := 9) (by decide +kernel)
theorem dX1_copyFrom_12 : decode cX1_copyFrom 12 = .ok (.aload_n 0, 1) := oc_42 (by decide +kernel)
theorem dX1_copyFrom_13 : decode cX1_copyFrom 13 = .ok (.getfield 9, 3) := oc_180 (a := 0) (b := 9) (by decide +kernel)
theorem dX1_copyFrom_16 : decode cX1_copyFrom 16 = .ok (.invokestatic 23, 3) := oc_184 (a := 0) (b := 23) (by decide +kernel)
theorem dX1_copyFrom_19 : decode cX1_copyFrom 19 = .ok (.aload_n 1, 1) := oc_43 (by decide +kernel)
theorem tw_138 : Cond.fieldLink RX1 15 "RingsUnder$Graves" "lay" "[J" ∈ wsL_law := sg_6 _ (List.mem_of_getElem? (i := 18) rfl)
theorem dX1_copyFrom_20 : decode cX1_copyFrom 20 = .ok (.getfield 15, 3) := oc_180 (a := 0) (b := 15) (by decide +kernel)
theorem dX1_copyFrom_23 : decode cX1_copyFrom 23 = .ok (.iconst 0, 1) := oc_3 (by decide +kernel)
theorem dX1_copyFrom_24 : decode cX1_copyFrom 24 = .ok (.aload_n 0, 1) := oc_42 (by decide +kernel)
theorem dX1_copyFrom_25 : decode cX1_copyFrom 25 = .ok (.getfield 15, 3) := oc_180 (a := 0) (b := 15) (by decide +kernel)
theorem dX1_copyFrom_28 : decode cX1_copyFrom 28 = .ok (.iconst 0, 1) := oc_3 (by decide +kernel)
theorem dX1_copyFrom_29 : decode cX1_copyFrom 29 = .ok (.bipush 30, 2) := oc_16 (a := 30) (by decide +kernel)
theorem tw_1394 : Cond.methodLink RX1 27 arraycopyName ∈ wsL_law := sg_59 _ (List.mem_of_getElem? (i := 2) rfl)
theorem dX1_copyFrom_31 : decode cX1_copyFrom 31 = .ok (.invokestatic 27, 3) := oc_184 (a := 0) (b := 27) (by decide +kernel)
theorem dX1_copyFrom_34 : decode cX1_copyFrom 34 = .ok (.return_, 1) := oc_177 (by decide +kernel)
theorem dX1_dig_0 : decode cX1_dig 0 = .ok (.aload_n 0, 1) := oc_42 (by decide +kernel)
theorem dX1_dig_1 : decode cX1_dig 1 = .ok (.getfield 19, 3) := oc_180 (a := 0) (b := 19) (by decide +kernel)
theorem dX1_dig_4 : decode cX1_dig 4 = .ok (.bipush 30, 2) := oc_16 (a := 30) (by decide +kernel)
theorem dX1_dig_6 : decode cX1_dig 6 = .ok (.if_icmp .lt 5, 3) := oc_161 (a := 0) (b := 5) (by decide +kernel)
theorem dX1_dig_11 : decode cX1_dig 11 = .ok (.aload_n 0, 1) := oc_42 (by decide +kernel)
theorem dX1_dig_12 : decode cX1_dig 12 = .ok (.getfield 9, 3) := oc_180 (a := 0) (b := 9) (by decide +kernel)
theorem dX1_dig_15 : decode cX1_dig 15 = .ok (.aload_n 0, 1) := oc_42 (by decide +kernel)
theorem dX1_dig_16 : decode cX1_dig 16 = .ok (.getfield 19, 3) := oc_180 (a := 0) (b := 19) (by decide +kernel)
theorem dX1_dig_19 : decode cX1_dig 19 = .ok (.iload_n 1, 1) := oc_27 (by decide +kernel)
theorem dX1_dig_20 : decode cX1_dig 20 = .ok (.iastore, 1) := oc_79 (by decide +kernel)
theorem dX1_dig_21 : decode cX1_dig 21 = .ok (.aload_n 0, 1) := oc_42 (by decide +kernel)
theorem dX1_dig_22 : decode cX1_dig 22 = .ok (.getfield 15, 3) := oc_180 (a := 0) (b := 15) (by decide +kernel)
theorem dX1_dig_25 : decode cX1_dig 25 = .ok (.aload_n 0, 1) := oc_42 (by decide +kernel)
theorem dX1_dig_26 : decode cX1_dig 26 = .ok (.getfield 19, 3) := oc_180 (a := 0) (b := 19) (by decide +kernel)
theorem dX1_dig_29 : decode cX1_dig 29 = .ok (.lconst 1, 1) := oc_10 (by decide +kernel)
theorem dX1_dig_30 : decode cX1_dig 30 = .ok (.iload_n 1, 1) := oc_27 (by decide +kernel)
theorem dX1_dig_31 : decode cX1_dig 31 = .ok (.lshl, 1) := oc_121 (by decide +kernel)
theorem dX1_dig_32 : decode cX1_dig 32 = .ok (.lastore, 1) := oc_80 (by decide +kernel)
theorem dX1_dig_33 : decode cX1_dig 33 = .ok (.aload_n 0, 1) := oc_42 (by decide +kernel)
theorem dX1_dig_34 : decode cX1_dig 34 = .ok (.dup, 1) := oc_89 (by decide +kernel)
theorem dX1_dig_35 : decode cX1_dig 35 = .ok (.getfield 19, 3) := oc_180 (a := 0) (b := 19) (by decide +kernel)
theorem dX1_dig_38 : decode cX1_dig 38 = .ok (.iconst 1, 1) := oc_4 (by decide +kernel)
theorem dX1_dig_39 : decode cX1_dig 39 = .ok (.iadd, 1) := oc_96 (by decide +kernel)
theorem dX1_dig_40 : decode cX1_dig 40 = .ok (.putfield 19, 3) := oc_181 (a := 0) (b := 19) (by decide +kernel)
theorem dX1_dig_43 : decode cX1_dig 43 = .ok (.aload_n 0, 1) := oc_42 (by decide +kernel)
theorem dX1_dig_44 : decode cX1_dig 44 = .ok (.getfield 19, 3) := oc_180 (a := 0) (b := 19) (by decide +kernel)
theorem dX1_dig_47 : decode cX1_dig 47 = .ok (.iconst 1, 1) := oc_4 (by decide +kernel)
theorem dX1_dig_48 : decode cX1_dig 48 = .ok (.isub, 1) := oc_100 (by decide +kernel)
theorem dX1_dig_49 : decode cX1_dig 49 = .ok (.ireturn, 1) := oc_172 (by decide +kernel)
theorem dX1_dig_9 : decode cX1_dig 9 = .ok (.iconst (-1), 1) := oc_2 (by decide +kernel)
theorem dX1_dig_10 : decode cX1_dig 10 = .ok (.ireturn, 1) := oc_172 (by decide +kernel)
theorem dX1_carry_0 : decode cX1_carry 0 = .ok (.aload_n 0, 1) := oc_42 (by decide +kernel)
theorem dX1_carry_1 : decode cX1_carry 1 = .ok (.getfield 9, 3) := oc_180 (a := 0) (b := 9) (by decide +kernel)
theorem dX1_carry_4 : decode cX1_carry 4 = .ok (.iload_n 1, 1) := oc_27 (by decide +kernel)
theorem dX1_carry_5 : decode cX1_carry 5 = .ok (.iaload, 1) := oc_46 (by decide +kernel)
theorem dX1_carry_6 : decode cX1_carry 6 = .ok (.iload_n 2, 1) := oc_28 (by decide +kernel)
theorem dX1_carry_7 : decode cX1_carry 7 = .ok (.if_icmp .ne 5, 3) := oc_160 (a := 0) (b := 5) (by decide +kernel)
theorem dX1_carry_12 : decode cX1_carry 12 = .ok (.aload_n 0, 1) := oc_42 (by decide +kernel)
theorem dX1_carry_13 : decode cX1_carry 13 = .ok (.getfield 9, 3) := oc_180 (a := 0) (b := 9) (by decide +kernel)
theorem dX1_carry_16 : decode cX1_carry 16 = .ok (.iload_n 1, 1) := oc_27 (by decide +kernel)
theorem dX1_carry_17 : decode cX1_carry 17 = .ok (.iload_n 2, 1) := oc_28 (by decide +kernel)
theorem dX1_carry_18 : decode cX1_carry 18 = .ok (.iastore, 1) := oc_79 (by decide +kernel)
theorem dX1_carry_19 : decode cX1_carry 19 = .ok (.aload_n 0, 1) := oc_42 (by decide +kernel)
theorem dX1_carry_20 : decode cX1_carry 20 = .ok (.getfield 15, 3) := oc_180 (a := 0) (b := 15) (by decide +kernel)
theorem dX1_carry_23 : decode cX1_carry 23 = .ok (.iload_n 1, 1) := oc_27 (by decide +kernel)
theorem dX1_carry_24 : decode cX1_carry 24 = .ok (.dup2, 1) := oc_92 (by decide +kernel)
theorem dX1_carry_25 : decode cX1_carry 25 = .ok (.laload, 1) := oc_47 (by decide +kernel)
theorem dX1_carry_26 : decode cX1_carry 26 = .ok (.lconst 1, 1) := oc_10 (by decide +kernel)
theorem dX1_carry_27 : decode cX1_carry 27 = .ok (.iload_n 2, 1) := oc_28 (by decide +kernel)
theorem dX1_carry_28 : decode cX1_carry 28 = .ok (.lshl, 1) := oc_121 (by decide +kernel)
theorem dX1_carry_29 : decode cX1_carry 29 = .ok (.lor, 1) := oc_129 (by decide +kernel)
theorem dX1_carry_30 : decode cX1_carry 30 = .ok (.lastore, 1) := oc_80 (by decide +kernel)
theorem dX1_carry_31 : decode cX1_carry 31 = .ok (.iconst 1, 1) := oc_4 (by decide +kernel)
theorem dX1_carry_32 : decode cX1_carry 32 = .ok (.ireturn, 1) := oc_172 (by decide +kernel)
theorem dX1_carry_10 : decode cX1_carry 10 = .ok (.iconst 0, 1) := oc_3 (by decide +kernel)
theorem dX1_carry_11 : decode cX1_carry 11 = .ok (.ireturn, 1) := oc_172 (by decide +kernel)
theorem dX1_whereNow_0 : decode cX1_whereNow 0 = .ok (.iconst 0, 1) := oc_3 (by decide +kernel)
theorem dX1_whereNow_1 : decode cX1_whereNow 1 = .ok (.istore_n 3, 1) := oc_62 (by decide +kernel)
theorem dX1_whereNow_2 : decode cX1_whereNow 2 = .ok (.iconst 0, 1) := oc_3 (by decide +kernel)
theorem dX1_whereNow_3 : decode cX1_whereNow 3 = .ok (.istore 4, 2) := oc_54 (by decide +kernel)
theorem dX1_whereNow_5 : decode cX1_whereNow 5 = .ok (.iload 4, 2) := oc_21 (by decide +kernel)
theorem dX1_whereNow_7 : decode cX1_whereNow 7 = .ok (.aload_n 0, 1) := oc_42 (by decide +kernel)
theorem dX1_whereNow_8 : decode cX1_whereNow 8 = .ok (.getfield 19, 3) := oc_180 (a := 0) (b := 19) (by decide +kernel)
theorem dX1_whereNow_11 : decode cX1_whereNow 11 = .ok (.if_icmp .ge 39, 3) := oc_162 (a := 0) (b := 39) (by decide +kernel)
theorem dX1_whereNow_50 : decode cX1_whereNow 50 = .ok (.iconst (-1), 1) := oc_2 (by decide +kernel)
theorem dX1_whereNow_51 : decode cX1_whereNow 51 = .ok (.ireturn, 1) := oc_172 (by decide +kernel)
theorem dX1_whereNow_14 : decode cX1_whereNow 14 = .ok (.aload_n 0, 1) := oc_42 (by decide +kernel)
theorem dX1_whereNow_15 : decode cX1_whereNow 15 = .ok (.getfield 15, 3) := oc_180 (a := 0) (b := 15) (by decide +kernel)
theorem dX1_whereNow_18 : decode cX1_whereNow 18 = .ok (.iload 4, 2) := oc_21 (by decide +kernel)
theorem dX1_whereNow_20 : decode cX1_whereNow 20 = .ok (.laload, 1) := oc_47 (by decide +kernel)
theorem dX1_whereNow_21 : decode cX1_whereNow 21 = .ok (.iload_n 1, 1) := oc_27 (by decide +kernel)
theorem dX1_whereNow_22 : decode cX1_whereNow 22 = .ok (.invokestatic 33, 3) := oc_184 (a := 0) (b := 33) (by decide +kernel)
theorem dX1_whereNow_44 : decode cX1_whereNow 44 = .ok (.iinc 4 1, 3) := oc_132 (b := 1) (by decide +kernel)
theorem dX1_whereNow_47 : decode cX1_whereNow 47 = .ok (.goto (-42), 3) := oc_167 (a := 255) (b := 214) (by decide +kernel)
theorem dX1_whereNow_25 : decode cX1_whereNow 25 = .ok (.ifCond .eq 19, 3) := oc_153 (a := 0) (b := 19) (by decide +kernel)
theorem dX1_whereNow_28 : decode cX1_whereNow 28 = .ok (.iload_n 3, 1) := oc_29 (by decide +kernel)
theorem dX1_whereNow_29 : decode cX1_whereNow 29 = .ok (.iload_n 2, 1) := oc_28 (by decide +kernel)
theorem dX1_whereNow_30 : decode cX1_whereNow 30 = .ok (.if_icmp .ne 11, 3) := oc_160 (a := 0) (b := 11) (by decide +kernel)
theorem dX1_whereNow_41 : decode cX1_whereNow 41 = .ok (.iinc 3 1, 3) := oc_132 (b := 1) (by decide +kernel)
theorem dX1_whereNow_33 : decode cX1_whereNow 33 = .ok (.aload_n 0, 1) := oc_42 (by decide +kernel)
theorem dX1_whereNow_34 : decode cX1_whereNow 34 = .ok (.getfield 9, 3) := oc_180 (a := 0) (b := 9) (by decide +kernel)
theorem dX1_whereNow_37 : decode cX1_whereNow 37 = .ok (.iload 4, 2) := oc_21 (by decide +kernel)
theorem dX1_whereNow_39 : decode cX1_whereNow 39 = .ok (.iaload, 1) := oc_46 (by decide +kernel)
theorem dX1_whereNow_40 : decode cX1_whereNow 40 = .ok (.ireturn, 1) := oc_172 (by decide +kernel)
theorem dX9_copyFrom_0 : decode cX9_copyFrom 0 = .ok (.aload_n 1, 1) := oc_43 (by decide +kernel)
theorem dX9_copyFrom_1 : decode cX9_copyFrom 1 = .ok (.getfield 9, 3) := oc_180 (a := 0) (b := 9) (by decide +kernel)
theorem dX9_copyFrom_4 : decode cX9_copyFrom 4 = .ok (.aload_n 0, 1) := oc_42 (by decide +kernel)
theorem dX9_copyFrom_5 : decode cX9_copyFrom 5 = .ok (.getfield 9, 3) := oc_180 (a := 0) (b := 9) (by decide +kernel)
theorem dX9_copyFrom_8 : decode cX9_copyFrom 8 = .ok (.invokestatic 21, 3) := oc_184 (a := 0) (b := 21) (by decide +kernel)
theorem dX9_copyFrom_11 : decode cX9_copyFrom 11 = .ok (.aload_n 1, 1) := oc_43 (by decide +kernel)
theorem dX9_copyFrom_12 : decode cX9_copyFrom 12 = .ok (.getfield 15, 3) := oc_180 (a := 0) (b := 15) (by decide +kernel)
theorem dX9_copyFrom_15 : decode cX9_copyFrom 15 = .ok (.aload_n 0, 1) := oc_42 (by decide +kernel)
theorem dX9_copyFrom_16 : decode cX9_copyFrom 16 = .ok (.getfield 15, 3) := oc_180 (a := 0) (b := 15) (by decide +kernel)
theorem dX9_copyFrom_19 : decode cX9_copyFrom 19 = .ok (.invokestatic 21, 3) := oc_184 (a := 0) (b := 21) (by decide +kernel)
theorem dX9_copyFrom_22 : decode cX9_copyFrom 22 = .ok (.aload_n 1, 1) := oc_43 (by decide +kernel)
theorem dX9_copyFrom_23 : decode cX9_copyFrom 23 = .ok (.getfield 18, 3) := oc_180 (a := 0) (b := 18) (by decide +kernel)
theorem dX9_copyFrom_26 : decode cX9_copyFrom 26 = .ok (.aload_n 0, 1) := oc_42 (by decide +kernel)
theorem dX9_copyFrom_27 : decode cX9_copyFrom 27 = .ok (.getfield 18, 3) := oc_180 (a := 0) (b := 18) (by decide +kernel)
theorem dX9_copyFrom_30 : decode cX9_copyFrom 30 = .ok (.invokestatic 21, 3) := oc_184 (a := 0) (b := 21) (by decide +kernel)
theorem dX9_copyFrom_33 : decode cX9_copyFrom 33 = .ok (.return_, 1) := oc_177 (by decide +kernel)
set_option maxRecDepth 100000 in
def g_X0_takeLot_L2 (a0 : Int32) (I : Nat → Int32) (J : Nat → Int64) (ri : Nat → Nat → Int32) (rj : Nat → Nat → Int64) (rq : Nat → Nat → Option Nat) : Nat → (Int32) → Int32 × vM
  | 0, x_95 => ((0 : Int32), I, J, ri, rj, rq)
  | n_112 + 1, x_95 => (ap1 (I 10) fun (y_118 : Int32) => (if (y_118) ≤ x_95 then ((-1 : Int32), I, J, ri, rj, rq) else (ap1 (ri 13 (x_95).toNatClampNeg) fun (x_125 : Int32) => (if x_125 < a0 then (ap1 (x_95 + Int32.ofInt 1) fun (x_131 : Int32) => ((g_X0_takeLot_L2 a0 I J ri rj rq n_112) x_131)) else (ap1 (x_125 - a0) fun (x_133 : Int32) => (ap1 (va_up ri 13 (upd (ri 13) (x_95).toNatClampNeg x_133)) fun (r_134 : Nat → Nat → Int32) => (x_95, I, J, r_134, rj, rq)))))))
set_option maxRecDepth 100000 in
theorem g_X0_takeLot_L2_e {a0 : Int32} {I : Nat → Int32} {J : Nat → Int64} {ri : Nat → Nat → Int32} {rj : Nat → Nat → Int64} {rq : Nat → Nat → Option Nat} {n_112 : Nat} {x_95 : Int32} : g_X0_takeLot_L2 a0 I J ri rj rq (n_112 + 1) x_95 = (ap1 (I 10) fun (y_118 : Int32) => (if (y_118) ≤ x_95 then ((-1 : Int32), I, J, ri, rj, rq) else (ap1 (ri 13 (x_95).toNatClampNeg) fun (x_125 : Int32) => (if x_125 < a0 then (ap1 (x_95 + Int32.ofInt 1) fun (x_131 : Int32) => ((g_X0_takeLot_L2 a0 I J ri rj rq n_112) x_131)) else (ap1 (x_125 - a0) fun (x_133 : Int32) => (ap1 (va_up ri 13 (upd (ri 13) (x_95).toNatClampNeg x_133)) fun (r_134 : Nat → Nat → Int32) => (x_95, I, J, r_134, rj, rq))))))) := rfl
set_option maxRecDepth 100000 in
def g_X0_takeLot (a0 : Int32) (I : Nat → Int32) (J : Nat → Int64) (ri : Nat → Nat → Int32) (rj : Nat → Nat → Int64) (rq : Nat → Nat → Option Nat) : Int32 × vM := (g_X0_takeLot_L2 a0 I J ri rj rq ((5 - ((0 : Int32)).toInt).toNat + 1) (0 : Int32))
set_option maxRecDepth 100000 in
theorem g_X0_takeLot_e {a0 : Int32} {I : Nat → Int32} {J : Nat → Int64} {ri : Nat → Nat → Int32} {rj : Nat → Nat → Int64} {rq : Nat → Nat → Option Nat} : g_X0_takeLot a0 I J ri rj rq = (g_X0_takeLot_L2 a0 I J ri rj rq ((5 - ((0 : Int32)).toInt).toNat + 1) (0 : Int32)) := rfl
set_option maxHeartbeats 4000000 in
set_option maxRecDepth 100000 in
theorem s_X0_takeLot (l : Launch) (D : va_G) (t : pq_T) (σ : pq_S) (I : Nat → Nat → Int32) (J : Nat → Nat → Int64) (ri : Nat → Nat → Int32) (rj : Nat → Nat → Int64) (rq : Nat → Nat → Option Nat) (sz : Nat) (tg : Nat → Nat) (hSH : SH σ tg) (hG0 : GS tg σ I ri rq) (this : Nat) (a0 : Int32) (hL_this : this ∈ σ.1) (hK_this : σ.2.1 this = 0) (M : Nat) (hL_M : M ∈ σ.1) (hK_M : σ.2.1 M = 10) (hO_this : this = vo σ 0 M) : MetI l yX0_takeLot (wa yX0_takeLot cX0_takeLot 3 (some .int)) ({ frames := 0, cells := 0, slots := 0, locals := 0 }) [.ref this, .int a0] D t σ (I, J, ri, rj, rq) sz 0 0 (fun (r : Int32) (u : pq_S × pq_M) => ∃ ri' : Nat → Nat → Int32, u = (σ, I, J, ri', rj, rq) ∧ GX [] tg σ I ri rj I ri' rj rq ∧ g_X0_takeLot a0 (vI 10 σ M I) (vJ 10 σ M J) (vR 10 σ M ri) (vL 10 σ M rj) (vQ 10 σ M rq) = (r, (vI 10 σ M I), (vJ 10 σ M J), (vR 10 σ M ri'), (vL 10 σ M rj), (vQ 10 σ M rq)) ∧ FR 10 tg σ M (I, J, ri, rj, rq) (I, J, ri', rj, rq) ∧ rg r (-1) 4) := by
  refine Met.ofW (cc := cX0_takeLot) (maxL := 3) (ret := (some .int)) (by decide) rfl ?_
  intro p e s m args below meth c s₁ B hml hv
  obtain ⟨rfl, hsz, hP, hK, hD0, hN⟩ := hv
  have hx := B.exec
  have hb := B.bytes
  have hr := B.returns
  have hts := atoms_spec (ws := (wa yX0_takeLot cX0_takeLot 3 (some .int))) B.pre
  have hown : s.vm.findClass RX0 = some m.cls := findClass_of_methodNamed B.named
  have hlocks := B.notSynchronized
  subst hsz
  have hD : va_D (pq_B t σ (I, J, ri, rj, rq) s.heap.size) (pq_P t σ (I, J, ri, rj, rq)) := hD0.self
  generalize hAe : pq_B t σ (I, J, ri, rj, rq) s.heap.size = A at hD ⊢
  have hA : ∀ q : Nat, s.heap.size ≤ q → A q := fun q h => by rw [← hAe]; exact Or.inr h
  have hS : va_S A s.heap s.heap [] := va_S.rf
  have hG : GX [] tg σ I ri rj I ri rj rq := ⟨hG0, fun _ _ _ => rfl, fun _ _ _ _ _ => rfl, fun _ _ _ _ _ => rfl⟩
  have hl := lv_entry ([.ref this, .int a0]) (n := 3) (Nat.le_of_ble_eq_true rfl)
  rw [lg_entry_eq]
  generalize (lg_sl ([.ref this, .int a0]) ++ List.replicate (3 - (lg_sl ([.ref this, .int a0])).length) Slot.unset).toArray = ls at hl ⊢
  have hl : lv_has ls 3 [(0, .ref this), (1, .int a0)] := hl
  refine q_gen (fun Q hQ => ?_)
  have go : ∀ (H : Heap) (locs : List Loc) (ls : Array Slot), va_P D vwCl (pq_P t σ (I, J, ri, rj, rq)) H → va_D A (pq_P t σ (I, J, ri, rj, rq)) → va_S A s.heap H locs → lv_has ls 3 [(0, .ref this), (1, .int a0)] → W p l e ({ frames := 0, cells := 0, slots := 0, locals := 0 } : Room) s m (List.toArray ([.ref this, .int a0] : List Value)) below meth c H locs 0 0 Q (F0 m 0 ls []) := by
    intro H locs ls hP hD hS hl
    have hVT : VT 10 σ tg M := vt_10 hSH hL_M hK_M
    have hFr : FR 10 tg σ M (I, J, ri, rj, rq) (I, J, ri, rj, rq) := fr_rf
    obtain ⟨F, hF0⟩ : ∃ F, F = g_X0_takeLot a0 (vI 10 σ M I) (vJ 10 σ M J) (vR 10 σ M ri) (vL 10 σ M rj) (vQ 10 σ M rq) := ⟨_, rfl⟩
    have hF := hF0.trans g_X0_takeLot_e
    refine lv_iconst (v := 0) hx hb dX0_takeLot_0 (by decide) ?_
    refine lv_istore_n (lv' := [(2, .int 0), (0, .ref this), (1, .int a0)]) hx hb dX0_takeLot_1 rfl hl (by decide) rfl (fun ls hl => ?_)
    have L_113 : ∀ (n_112 : Nat) (x_95 : Int32) (H : Heap) (locs : List Loc) (ls : Array Slot), rg x_95 0 5 → (5 - (x_95).toInt).toNat < n_112 → F = g_X0_takeLot_L2 a0 (vI 10 σ M I) (vJ 10 σ M J) (vR 10 σ M ri) (vL 10 σ M rj) (vQ 10 σ M rq) n_112 x_95 → FR 10 tg σ M (I, J, ri, rj, rq) (I, J, ri, rj, rq) → GX [] tg σ I ri rj I ri rj rq → va_P D vwCl (pq_P t σ (I, J, ri, rj, rq)) H → va_D A (pq_P t σ (I, J, ri, rj, rq)) → va_S A s.heap H locs → lv_has ls 3 [(0, .ref this), (1, .int a0), (2, .int x_95)] → W p l e ({ frames := 0, cells := 0, slots := 0, locals := 0 } : Room) s m (List.toArray ([.ref this, .int a0] : List Value)) below meth c H locs 0 0 Q (F0 m 2 ls []) := by
      intro n_112
      induction n_112 with
      | zero => intro x_95 H locs ls h_116 hm_111 hF hFr hG hP hD hS hl; exact absurd hm_111 (Nat.not_lt_zero _)
      | succ n_112 ih_114 =>
        intro x_95 H locs ls h_116 hm_111 hF hFr hG hP hD hS hl
        replace hF := hF.trans g_X0_takeLot_L2_e
        refine lv_iload_n hx hb dX0_takeLot_2 rfl (lv_at hl 2 rfl) ?_
        refine lv_aload_n hx hb dX0_takeLot_3 rfl (lv_at hl 0 rfl) ?_
        refine pg_f (v := .int (I 10 this)) (C := RX0) (T := TX0) (N := 16) hx hb hts (tw_i inlX0) hown hK hP hL_this hK_this (by decide) rfl 10 (by decide) (hts _ (tw_c tw_1171)) rfl dX0_takeLot_4 ?_
        have h_117 : rg (I 10 this) 0 5 := GX.rI hG 10 rfl
        replace hF := hF.trans (ap_n (vI_e (f := 10) hO_this (by decide)))
        refine lv_icmp_ge (tgt := 38) hx hb dX0_takeLot_7 (by decide) (fun c_119 => ?_) (fun c_119 => ?_)
        · replace hF := hF.trans (if_pos c_119)
          refine lv_iconst (v := (-1)) hx hb dX0_takeLot_38 (by decide) ?_
          subst hQ
          exact W.iret (v := (-1)) hx hb hr (fun t1 ht hW => ⟨⟨(-1), (σ, I, J, ri, rj, rq), rfl, ⟨ri, rfl, hG, (hF0.symm.trans hF), hFr, (rg_w (rg_k (-1 : Int32) (-1) rfl) (by decide))⟩, by rw [ht]; exact hP, va_K.moved hW.alike hK, hD⟩, hS.F ht⟩) hS.2.2 dX0_takeLot_39
        · replace hF := hF.trans (if_neg c_119)
          have h_122 : rg x_95 0 4 := rg_lt1 (nle c_119) h_116 h_117 (by decide)
          have h_123 : rg (I 10 this) 1 5 := rg_lt2 (nle c_119) h_116 h_117 (by decide)
          refine lv_aload_n hx hb dX0_takeLot_10 rfl (lv_at hl 0 rfl) ?_
          obtain ⟨w_124, hR_w_124, hL_w_124, hK_w_124, hN_w_124, hT_w_124⟩ := sh_a hSH 13 (ci := 0) (kd := 13) (len := 5) rfl (by decide) hL_this hK_this
          have hO_w_124 : w_124 = vrow σ 13 M := vo_k (c := 0) hO_this hR_w_124
          refine pg_f (v := .ref w_124) (C := RX0) (T := TX0) (N := 16) hx hb hts (tw_i inlX0) hown hK hP hL_this hK_this (by decide) rfl 13 (by decide) (hts _ (tw_c tw_121)) (pq_hv rfl hR_w_124) dX0_takeLot_11 ?_
          refine lv_iload_n hx hb dX0_takeLot_14 rfl (lv_at hl 2 rfl) ?_
          refine pl_i hx hb hK hP hL_w_124 hK_w_124 hN_w_124 (rg_in h_122 (by decide)) dX0_takeLot_15 ?_
          refine lv_topi (fun x_125 ex_125 => ?_)
          replace hF := hF.trans (ap_n (vR_r hO_w_124 (by decide) ex_125))
          refine lv_iload_n hx hb dX0_takeLot_16 rfl (lv_at hl 1 rfl) ?_
          refine lv_icmp_lt (tgt := 32) hx hb dX0_takeLot_17 (by decide) (fun c_126 => ?_) (fun c_126 => ?_)
          · replace hF := hF.trans (if_pos c_126)
            have h_129 : rg x_125 (-2147483648) 2147483646 := rg_lt1 c_126 (rg_full _) (rg_full _) (by decide)
            have h_130 : rg a0 (-2147483647) 2147483647 := rg_lt2 c_126 (rg_full _) (rg_full _) (by decide)
            obtain ⟨x_131, ex_131⟩ : ∃ y : Int32, y = x_95 + Int32.ofInt 1 := ⟨_, rfl⟩
            replace hF := hF.trans (ap_n ex_131)
            have h_132 : rg x_131 1 5 := rg_of_eq ex_131 (rg_add h_122 (rg_k (Int32.ofInt 1) 1 rfl) (by decide))
            refine lv_iinc (v := x_131) (lv' := [(2, .int x_131), (0, .ref this), (1, .int a0)]) hx hb dX0_takeLot_32 hl (k := 2) rfl ex_131.symm (by decide) rfl (fun ls hl => ?_)
            refine lv_goto (tgt := 2) hx hb dX0_takeLot_35 (by decide) ?_
            exact ih_114 x_131 _ _ _ (rg_w h_132 (by decide)) (ms_up 1 hm_111 ex_131 rfl (by decide) h_122 (by decide) (by decide)) hF hFr hG hP hD hS (lv_sub hl [1, 2, 0] rfl)
          · replace hF := hF.trans (if_neg c_126)
            refine lv_aload_n hx hb dX0_takeLot_20 rfl (lv_at hl 0 rfl) ?_
            refine pg_f (v := .ref w_124) (C := RX0) (T := TX0) (N := 16) hx hb hts (tw_i inlX0) hown hK hP hL_this hK_this (by decide) rfl 13 (by decide) (hts _ (tw_c tw_121)) (pq_hv rfl hR_w_124) dX0_takeLot_21 ?_
            refine lv_iload_n hx hb dX0_takeLot_24 rfl (lv_at hl 2 rfl) ?_
            refine lv_dup2_11 hx hb dX0_takeLot_25 rfl rfl ?_
            refine pl_i hx hb hK hP hL_w_124 hK_w_124 hN_w_124 (rg_in h_122 (by decide)) dX0_takeLot_26 ?_
            refine lv_tov x_125 ex_125.symm ?_
            refine lv_iload_n hx hb dX0_takeLot_27 rfl (lv_at hl 1 rfl) ?_
            refine lv_isub hx hb dX0_takeLot_28 ?_
            refine lv_topi (fun x_133 ex_133 => ?_)
            replace hF := hF.trans (ap_n ex_133)
            refine pt_i hx hb hK hP hD hS hL_w_124 hK_w_124 hN_w_124 (rg_in h_122 (by decide)) dX0_takeLot_29 (fun r_134 H locs er_134 hP hD hS => ?_)
            replace hFr := fr_R hFr hO_w_124 (by decide) er_134
            replace hF := hF.trans (ap_n (vR_st hVT hO_w_124 (by decide) er_134))
            have hG := GX.wR hG hSH hT_w_124 rfl er_134 (rg_w (rg_full _) (by decide)) (by decide)
            refine lv_iload_n hx hb dX0_takeLot_30 rfl (lv_at hl 2 rfl) ?_
            subst hQ
            exact W.iret (v := x_95) hx hb hr (fun t1 ht hW => ⟨⟨x_95, (σ, I, J, r_134, rj, rq), rfl, ⟨r_134, rfl, hG, (hF0.symm.trans hF), hFr, (rg_w h_122 (by decide))⟩, by rw [ht]; exact hP, va_K.moved hW.alike hK, hD⟩, hS.F ht⟩) hS.2.2 dX0_takeLot_31
    exact L_113 _ (0 : Int32) _ _ _ (rg_w (rg_k (0 : Int32) 0 rfl) (by decide)) (Nat.lt_succ_self _) hF hFr hG hP hD hS (lv_sub hl [1, 2, 0] rfl)
  exact go _ _ _ hP hD hS hl

set_option maxHeartbeats 4000000 in
set_option maxRecDepth 100000 in
theorem s_X11_copy_33_33 (l : Launch) (D : va_G) (t : pq_T) (σ : pq_S) (I : Nat → Nat → Int32) (J : Nat → Nat → Int64) (ri : Nat → Nat → Int32) (rj : Nat → Nat → Int64) (rq : Nat → Nat → Option Nat) (sz : Nat) (tg : Nat → Nat) (hSH : SH σ tg) (hG0 : GS tg σ I ri rq) (a0 : Nat) (a1 : Nat) (hL_a0 : a0 ∈ σ.1) (hK_a0 : σ.2.1 a0 = 13) (hN_a0 : σ.2.2.2 a0 = 30) (hT_a0 : tg a0 = 33) (hL_a1 : a1 ∈ σ.1) (hK_a1 : σ.2.1 a1 = 13) (hN_a1 : σ.2.2.2 a1 = 30) (hT_a1 : tg a1 = 33) : MetV l yX11_copy (wa yX11_copy cX11_copy 2 none) ({ frames := 1, cells := 0, slots := 0, locals := 60 }) [.ref a0, .ref a1] D t σ (I, J, ri, rj, rq) sz 0 0 (fun (u : pq_S × pq_M) => ∃ ri' : Nat → Nat → Int32, u = (σ, I, J, ri', rj, rq) ∧ GX [1033] tg σ I ri rj I ri' rj rq ∧ (∀ j, j < 30 → ri' a1 j = ri a0 j) ∧ (∀ q, q ≠ a1 → ri' q = ri q) ∧ (ri' = va_up ri a1 (va_cpy (ri a0) (ri a1) 0 0 30))) := by
  refine Met.ofW (cc := cX11_copy) (maxL := 2) (ret := none) (by decide) rfl ?_
  intro p e s m args below meth c s₁ B hml hv
  obtain ⟨rfl, hsz, hP, hK, hD0, hN⟩ := hv
  have hx := B.exec
  have hb := B.bytes
  have hr := B.returns
  have hts := atoms_spec (ws := (wa yX11_copy cX11_copy 2 none)) B.pre
  have hown : s.vm.findClass RX11 = some m.cls := findClass_of_methodNamed B.named
  have hlocks := B.notSynchronized
  subst hsz
  have hD : va_D (pq_B t σ (I, J, ri, rj, rq) s.heap.size) (pq_P t σ (I, J, ri, rj, rq)) := hD0.self
  generalize hAe : pq_B t σ (I, J, ri, rj, rq) s.heap.size = A at hD ⊢
  have hA : ∀ q : Nat, s.heap.size ≤ q → A q := fun q h => by rw [← hAe]; exact Or.inr h
  have hS : va_S A s.heap s.heap [] := va_S.rf
  have hG : GX [1033] tg σ I ri rj I ri rj rq := ⟨hG0, fun _ _ _ => rfl, fun _ _ _ _ _ => rfl, fun _ _ _ _ _ => rfl⟩
  have hl := lv_entry ([.ref a0, .ref a1]) (n := 2) (Nat.le_of_ble_eq_true rfl)
  rw [lg_entry_eq]
  generalize (lg_sl ([.ref a0, .ref a1]) ++ List.replicate (2 - (lg_sl ([.ref a0, .ref a1])).length) Slot.unset).toArray = ls at hl ⊢
  have hl : lv_has ls 2 [(0, .ref a0), (1, .ref a1)] := hl
  refine q_gen (fun Q hQ => ?_)
  have go : ∀ (H : Heap) (locs : List Loc) (ls : Array Slot), va_P D vwCl (pq_P t σ (I, J, ri, rj, rq)) H → va_D A (pq_P t σ (I, J, ri, rj, rq)) → va_S A s.heap H locs → lv_has ls 2 [(0, .ref a0), (1, .ref a1)] → W p l e ({ frames := 1, cells := 0, slots := 0, locals := 60 } : Room) s m (List.toArray ([.ref a0, .ref a1] : List Value)) below meth c H locs 0 0 Q (F0 m 0 ls []) := by
    intro H locs ls hP hD hS hl
    refine lv_aload_n hx hb dX11_copy_0 rfl (lv_at hl 0 rfl) ?_
    refine lv_iconst (v := 0) hx hb dX11_copy_1 (by decide) ?_
    refine lv_aload_n hx hb dX11_copy_2 rfl (lv_at hl 1 rfl) ?_
    refine lv_iconst (v := 0) hx hb dX11_copy_3 (by decide) ?_
    refine lv_aload_n hx hb dX11_copy_4 rfl (lv_at hl 0 rfl) ?_
    refine pn_i (v := 30) hx hb hK hP hL_a0 hK_a0 hN_a0 (by decide) dX11_copy_5 ?_
    refine lv_aload_n hx hb dX11_copy_6 rfl (lv_at hl 1 rfl) ?_
    refine pn_i (v := 30) hx hb hK hP hL_a1 hK_a1 hN_a1 (by decide) dX11_copy_7 ?_
    refine va_mmin hx hb (hml.trans hl.1.symm) hown (hts _ (tw_c tw_1103)) (hts _ (tw_c tw_467)) (hts _ (tw_c tw_276)) (hts _ (tw_c tw_468)) (Nat.le_of_ble_eq_true rfl) (Nat.le_of_ble_eq_true rfl) (Nat.zero_le _) (Nat.zero_le _) dX11_copy_8 ?_
    refine lv_topi (fun x_1 ex_1 => ?_)
    have h_2 : rg x_1 30 30 := rg_of_eq ex_1 (rg_min2 (rg_k (30 : Int32) 30 rfl) (rg_k (30 : Int32) 30 rfl) (by decide))
    refine pc_i hx hb (hml.trans hl.1.symm) hown (hts _ (tw_c tw_1104)) (hts _ (tw_c tw_1105)) (hts _ (tw_c tw_1106)) (hts _ (tw_c tw_1107)) hK hP hD hS hL_a0 hK_a0 hN_a0 hL_a1 hK_a1 hN_a1 (rg_pos (rg_k (0 : Int32) 0 rfl) (by decide)) (rg_pos h_2 (by decide)) (rg_cp (rg_k (0 : Int32) 0 rfl) h_2 (by decide)) (rg_cl h_2 (by decide)) (Nat.le_of_ble_eq_true rfl) (Nat.le_of_ble_eq_true rfl) dX11_copy_11 (fun r_3 H locs er_3 hP hD hS => ?_)
    have hG := GX.cR hG hSH hT_a0 rfl hT_a1 rfl er_3 (by decide)
    subst hQ
    exact W.vret hx hb hr (fun t1 ht hW => ⟨⟨(σ, I, J, r_3, rj, rq), rfl, ⟨r_3, rfl, hG, (cpy_eq er_3 h_2 rfl), (fun q hq => by rw [er_3, va_up_ne _ _ hq]), (by rw [er_3, show (x_1).toNatClampNeg = 30 from by have z_i := clampE x_1; have z_r := h_2; have z_1 := z_r.1; have z_2 := z_r.2; omega]; rfl)⟩, by rw [ht]; exact hP, va_K.moved hW.alike hK, hD⟩, hS.F ht⟩) hS.2.2 dX11_copy_14
  exact go _ _ _ hP hD hS hl

set_option maxRecDepth 100000 in
def g_X1_copyFrom (nI : Nat → Int32) (nR : Nat → Nat → Int32) (nL : Nat → Nat → Int64) (I : Nat → Int32) (J : Nat → Int64) (ri : Nat → Nat → Int32) (rj : Nat → Nat → Int64) (rq : Nat → Nat → Option Nat) : vM := (ap1 (nI 32) fun (y_2 : Int32) => (ap1 (va_up I 32 (y_2)) fun (I_3 : Nat → Int32) => (ap1 (va_up ri 33 (va_cpy (nR 33) (ri 33) 0 0 30)) fun (ri_8 : Nat → Nat → Int32) => (ap1 (va_up rj 34 (va_cpy (nL 34) (rj 34) ((0 : Int32)).toNatClampNeg 0 ((30 : Int32)).toNatClampNeg)) fun (r_19 : Nat → Nat → Int64) => (I_3, J, ri_8, r_19, rq)))))
set_option maxRecDepth 100000 in
theorem g_X1_copyFrom_e {nI : Nat → Int32} {nR : Nat → Nat → Int32} {nL : Nat → Nat → Int64} {I : Nat → Int32} {J : Nat → Int64} {ri : Nat → Nat → Int32} {rj : Nat → Nat → Int64} {rq : Nat → Nat → Option Nat} : g_X1_copyFrom nI nR nL I J ri rj rq = (ap1 (nI 32) fun (y_2 : Int32) => (ap1 (va_up I 32 (y_2)) fun (I_3 : Nat → Int32) => (ap1 (va_up ri 33 (va_cpy (nR 33) (ri 33) 0 0 30)) fun (ri_8 : Nat → Nat → Int32) => (ap1 (va_up rj 34 (va_cpy (nL 34) (rj 34) ((0 : Int32)).toNatClampNeg 0 ((30 : Int32)).toNatClampNeg)) fun (r_19 : Nat → Nat → Int64) => (I_3, J, ri_8, r_19, rq))))) := rfl
set_option maxHeartbeats 4000000 in
set_option maxRecDepth 100000 in
theorem s_X1_copyFrom (l : Launch) (D : va_G) (t : pq_T) (σ : pq_S) (I : Nat → Nat → Int32) (J : Nat → Nat → Int64) (ri : Nat → Nat → Int32) (rj : Nat → Nat → Int64) (rq : Nat → Nat → Option Nat) (sz : Nat) (tg : Nat → Nat) (hSH : SH σ tg) (hG0 : GS tg σ I ri rq) (this : Nat) (a0 : Nat) (hL_this : this ∈ σ.1) (hK_this : σ.2.1 this = 1) (hL_a0 : a0 ∈ σ.1) (hK_a0 : σ.2.1 a0 = 1) (M : Nat) (hL_M : M ∈ σ.1) (hK_M : σ.2.1 M = 10) (N : Nat) (hL_N : N ∈ σ.1) (hK_N : σ.2.1 N = 10) (hO_this : this = vo σ 1 M) (hO_a0 : a0 = vo σ 1 N) (hap : AP 10 tg σ M N) : MetV l yX1_copyFrom (wa yX1_copyFrom cX1_copyFrom 2 none) ({ frames := 2, cells := 0, slots := 0, locals := 81 }) [.ref this, .ref a0] D t σ (I, J, ri, rj, rq) sz 0 0 (fun (u : pq_S × pq_M) => ∃ I' : Nat → Nat → Int32, ∃ ri' : Nat → Nat → Int32, ∃ rj' : Nat → Nat → Int64, u = (σ, I', J, ri', rj', rq) ∧ GX [32, 1033, 1034] tg σ I ri rj I' ri' rj' rq ∧ g_X1_copyFrom (vI 10 σ N I) (vR 10 σ N ri) (vL 10 σ N rj) (vI 10 σ M I) (vJ 10 σ M J) (vR 10 σ M ri) (vL 10 σ M rj) (vQ 10 σ M rq) = ((vI 10 σ M I'), (vJ 10 σ M J), (vR 10 σ M ri'), (vL 10 σ M rj'), (vQ 10 σ M rq)) ∧ FR 10 tg σ M (I, J, ri, rj, rq) (I', J, ri', rj', rq)) := by
  refine Met.ofW (cc := cX1_copyFrom) (maxL := 2) (ret := none) (by decide) rfl ?_
  intro p e s m args below meth c s₁ B hml hv
  obtain ⟨rfl, hsz, hP, hK, hD0, hN⟩ := hv
  have hx := B.exec
  have hb := B.bytes
  have hr := B.returns
  have hts := atoms_spec (ws := (wa yX1_copyFrom cX1_copyFrom 2 none)) B.pre
  have hown : s.vm.findClass RX1 = some m.cls := findClass_of_methodNamed B.named
  have hlocks := B.notSynchronized
  subst hsz
  have hD : va_D (pq_B t σ (I, J, ri, rj, rq) s.heap.size) (pq_P t σ (I, J, ri, rj, rq)) := hD0.self
  generalize hAe : pq_B t σ (I, J, ri, rj, rq) s.heap.size = A at hD ⊢
  have hA : ∀ q : Nat, s.heap.size ≤ q → A q := fun q h => by rw [← hAe]; exact Or.inr h
  have hS : va_S A s.heap s.heap [] := va_S.rf
  have hG : GX [32, 1033, 1034] tg σ I ri rj I ri rj rq := ⟨hG0, fun _ _ _ => rfl, fun _ _ _ _ _ => rfl, fun _ _ _ _ _ => rfl⟩
  have hl := lv_entry ([.ref this, .ref a0]) (n := 2) (Nat.le_of_ble_eq_true rfl)
  rw [lg_entry_eq]
  generalize (lg_sl ([.ref this, .ref a0]) ++ List.replicate (2 - (lg_sl ([.ref this, .ref a0])).length) Slot.unset).toArray = ls at hl ⊢
  have hl : lv_has ls 2 [(0, .ref this), (1, .ref a0)] := hl
  refine q_gen (fun Q hQ => ?_)
  have go : ∀ (H : Heap) (locs : List Loc) (ls : Array Slot), va_P D vwCl (pq_P t σ (I, J, ri, rj, rq)) H → va_D A (pq_P t σ (I, J, ri, rj, rq)) → va_S A s.heap H locs → lv_has ls 2 [(0, .ref this), (1, .ref a0)] → W p l e ({ frames := 2, cells := 0, slots := 0, locals := 81 } : Room) s m (List.toArray ([.ref this, .ref a0] : List Value)) below meth c H locs 0 0 Q (F0 m 0 ls []) := by
    intro H locs ls hP hD hS hl
    have hVT : VT 10 σ tg M := vt_10 hSH hL_M hK_M
    have hFr : FR 10 tg σ M (I, J, ri, rj, rq) (I, J, ri, rj, rq) := fr_rf
    obtain ⟨F, hF0⟩ : ∃ F, F = g_X1_copyFrom (vI 10 σ N I) (vR 10 σ N ri) (vL 10 σ N rj) (vI 10 σ M I) (vJ 10 σ M J) (vR 10 σ M ri) (vL 10 σ M rj) (vQ 10 σ M rq) := ⟨_, rfl⟩
    have hF := hF0.trans g_X1_copyFrom_e
    refine lv_aload_n hx hb dX1_copyFrom_0 rfl (lv_at hl 0 rfl) ?_
    refine lv_aload_n hx hb dX1_copyFrom_1 rfl (lv_at hl 1 rfl) ?_
    refine pg_f (v := .int (I 32 a0)) (C := RX1) (T := TX1) (N := 3) hx hb hts (tw_i inlX1) hown hK hP hL_a0 hK_a0 (by decide) rfl 0 (by decide) (hts _ (tw_c tw_1393)) rfl dX1_copyFrom_2 ?_
    have h_1 : rg (I 32 a0) 0 30 := GX.rI hG 32 rfl
    replace hF := hF.trans (ap_n (cI_e (f := 32) hFr hap hO_a0 (by decide)))
    refine pp_i (v := (I 32 a0)) (ty := .int) (C := RX1) (T := TX1) (N := 3) hx hb hts (tw_i inlX1) tyX1 tyX1_ok nmX1 hown hK hP hD hS hL_this hK_this (by decide) rfl 0 32 (by decide) (hts _ (tw_c tw_1393)) rfl (tyX1_ok 0 (by decide)) rfl rfl (Nat.le_of_ble_eq_true rfl) (ps_32 _ _ _ _ _) dX1_copyFrom_5 (fun I_3 H locs eI_3 hP hD hS => ?_)
    replace hFr := fr_I (f := 32) hFr hO_this (by decide) eI_3
    replace hF := hF.trans (ap_n (vI_st (f := 32) hO_this (by decide) eI_3))
    have hG := GX.wI hG 32 rfl eI_3 (rg_w h_1 (by decide)) (by decide)
    refine lv_aload_n hx hb dX1_copyFrom_8 rfl (lv_at hl 1 rfl) ?_
    obtain ⟨w_4, hR_w_4, hL_w_4, hK_w_4, hN_w_4, hT_w_4⟩ := sh_a hSH 33 (ci := 1) (kd := 13) (len := 30) rfl (by decide) hL_a0 hK_a0
    have hO_w_4 : w_4 = vrow σ 33 N := vo_k (c := 1) hO_a0 hR_w_4
    refine pg_f (v := .ref w_4) (C := RX1) (T := TX1) (N := 3) hx hb hts (tw_i inlX1) hown hK hP hL_a0 hK_a0 (by decide) rfl 1 (by decide) (hts _ (tw_c tw_137)) (pq_hv rfl hR_w_4) dX1_copyFrom_9 ?_
    refine lv_aload_n hx hb dX1_copyFrom_12 rfl (lv_at hl 0 rfl) ?_
    obtain ⟨w_5, hR_w_5, hL_w_5, hK_w_5, hN_w_5, hT_w_5⟩ := sh_a hSH 33 (ci := 1) (kd := 13) (len := 30) rfl (by decide) hL_this hK_this
    have hO_w_5 : w_5 = vrow σ 33 M := vo_k (c := 1) hO_this hR_w_5
    refine pg_f (v := .ref w_5) (C := RX1) (T := TX1) (N := 3) hx hb hts (tw_i inlX1) hown hK hP hL_this hK_this (by decide) rfl 1 (by decide) (hts _ (tw_c tw_137)) (pq_hv rfl hR_w_5) dX1_copyFrom_13 ?_
    refine pk_v (va_runSN (As := [.ref w_4, .ref w_5]) (rest := []) ⟨hx, hb, hml, hown, hts⟩ (s_X11_copy_33_33 l D t σ I_3 J ri rj rq H.size tg hSH hG.1 w_4 w_5 hL_w_4 hK_w_4 hN_w_4 hT_w_4 hL_w_5 hK_w_5 hN_w_5 hT_w_5) ⟨va_cnB (host := "RingsUnder") 2 hts (tw_W tw_1102) rfl rfl rfl (nl_22 hN) (hts _ (tw_c tw_2)) cd_yX11_copy_2 ⟨Nat.le_of_ble_eq_true rfl, Nat.le_of_ble_eq_true rfl⟩, hts (.static yX11_copy) (tw_c tq_static_yX11_copy), trivial⟩ ⟨pq_blind, pq_pre hK hN hP hD⟩ rfl rfl hl.1 rfl (lv_room (Nat.le_of_ble_eq_true rfl)) dX1_copyFrom_16 ⟨Nat.le_of_ble_eq_true rfl, Nat.le_of_ble_eq_true rfl⟩) hD hS hA (fun σ1 μ1 H locs hw_7 hP hD hS => ?_)
    obtain ⟨ri_8, hu_9, hg_10, hp_12, hp_13, hp_14⟩ := hw_7
    obtain ⟨hu_9a, hu_9b⟩ := Prod.mk.inj hu_9
    rw [hu_9a, hu_9b] at hP hD
    replace hF := hF.trans (ap_n (vR_cp hVT hO_w_5 (by decide) (funext fun _ => (cR_r hFr hap hO_w_4 (by decide) rfl)) hp_14))
    replace hFr := fr_R hFr hO_w_5 (by decide) hp_14
    have hG := GX.tr hG hg_10 (by decide)
    refine lv_aload_n hx hb dX1_copyFrom_19 rfl (lv_at hl 1 rfl) ?_
    obtain ⟨w_17, hR_w_17, hL_w_17, hK_w_17, hN_w_17, hT_w_17⟩ := sh_a hSH 34 (ci := 1) (kd := 14) (len := 30) rfl (by decide) hL_a0 hK_a0
    have hO_w_17 : w_17 = vrow σ 34 N := vo_k (c := 1) hO_a0 hR_w_17
    refine pg_f (v := .ref w_17) (C := RX1) (T := TX1) (N := 3) hx hb hts (tw_i inlX1) hown hK hP hL_a0 hK_a0 (by decide) rfl 2 (by decide) (hts _ (tw_c tw_138)) (pq_hv rfl hR_w_17) dX1_copyFrom_20 ?_
    refine lv_iconst (v := 0) hx hb dX1_copyFrom_23 (by decide) ?_
    refine lv_aload_n hx hb dX1_copyFrom_24 rfl (lv_at hl 0 rfl) ?_
    obtain ⟨w_18, hR_w_18, hL_w_18, hK_w_18, hN_w_18, hT_w_18⟩ := sh_a hSH 34 (ci := 1) (kd := 14) (len := 30) rfl (by decide) hL_this hK_this
    have hO_w_18 : w_18 = vrow σ 34 M := vo_k (c := 1) hO_this hR_w_18
    refine pg_f (v := .ref w_18) (C := RX1) (T := TX1) (N := 3) hx hb hts (tw_i inlX1) hown hK hP hL_this hK_this (by decide) rfl 2 (by decide) (hts _ (tw_c tw_138)) (pq_hv rfl hR_w_18) dX1_copyFrom_25 ?_
    refine lv_iconst (v := 0) hx hb dX1_copyFrom_28 (by decide) ?_
    refine lv_bipush (v := 30) hx hb dX1_copyFrom_29 (by decide) ?_
    refine pc_l hx hb (hml.trans hl.1.symm) hown (hts _ (tw_c tw_1394)) (hts _ (tw_c tw_1105)) (hts _ (tw_c tw_1106)) (hts _ (tw_c tw_1107)) hK hP hD hS hL_w_17 hK_w_17 hN_w_17 hL_w_18 hK_w_18 hN_w_18 (rg_pos (rg_k (0 : Int32) 0 rfl) (by decide)) (rg_pos (rg_k (30 : Int32) 30 rfl) (by decide)) (rg_cp (rg_k (0 : Int32) 0 rfl) (rg_k (30 : Int32) 30 rfl) (by decide)) (rg_cl (rg_k (30 : Int32) 30 rfl) (by decide)) (Nat.le_of_ble_eq_true rfl) (Nat.le_of_ble_eq_true rfl) dX1_copyFrom_31 (fun r_19 H locs er_19 hP hD hS => ?_)
    replace hF := hF.trans (ap_n (vL_cp hVT hO_w_18 (by decide) (funext fun _ => (cL_r hFr hap hO_w_17 (by decide) rfl)) er_19))
    replace hFr := fr_L hFr hO_w_18 (by decide) er_19
    have hG := GX.wJ hG hT_w_18 er_19 (by decide)
    subst hQ
    exact W.vret hx hb hr (fun t1 ht hW => ⟨⟨(σ, I_3, J, ri_8, r_19, rq), rfl, ⟨I_3, ri_8, r_19, rfl, hG, (hF0.symm.trans hF), hFr⟩, by rw [ht]; exact hP, va_K.moved hW.alike hK, hD⟩, hS.F ht⟩) hS.2.2 dX1_copyFrom_34
  exact go _ _ _ hP hD hS hl

set_option maxRecDepth 100000 in
def g_X1_dig (a0 : Int32) (I : Nat → Int32) (J : Nat → Int64) (ri : Nat → Nat → Int32) (rj : Nat → Nat → Int64) (rq : Nat → Nat → Option Nat) : Int32 × vM := (ap1 (I 32) fun (y_2 : Int32) => (if (y_2) < (30 : Int32) then (ap1 (va_up ri 33 (upd (ri 33) ((y_2)).toNatClampNeg a0)) fun (r_8 : Nat → Nat → Int32) => (ap1 ((1 : Int64) <<< (a0.toInt64 &&& 63)) fun (x_10 : Int64) => (ap1 (va_up rj 34 (vp_updL (rj 34) ((y_2)).toNatClampNeg x_10)) fun (r_11 : Nat → Nat → Int64) => (ap1 ((y_2) + (1 : Int32)) fun (x_12 : Int32) => (ap1 (va_up I 32 x_12) fun (I_14 : Nat → Int32) => (ap1 (I_14 32) fun (y_16 : Int32) => (ap1 ((y_16) - (1 : Int32)) fun (x_17 : Int32) => (x_17, I_14, J, r_8, r_11, rq)))))))) else ((-1 : Int32), I, J, ri, rj, rq)))
set_option maxRecDepth 100000 in
theorem g_X1_dig_e {a0 : Int32} {I : Nat → Int32} {J : Nat → Int64} {ri : Nat → Nat → Int32} {rj : Nat → Nat → Int64} {rq : Nat → Nat → Option Nat} : g_X1_dig a0 I J ri rj rq = (ap1 (I 32) fun (y_2 : Int32) => (if (y_2) < (30 : Int32) then (ap1 (va_up ri 33 (upd (ri 33) ((y_2)).toNatClampNeg a0)) fun (r_8 : Nat → Nat → Int32) => (ap1 ((1 : Int64) <<< (a0.toInt64 &&& 63)) fun (x_10 : Int64) => (ap1 (va_up rj 34 (vp_updL (rj 34) ((y_2)).toNatClampNeg x_10)) fun (r_11 : Nat → Nat → Int64) => (ap1 ((y_2) + (1 : Int32)) fun (x_12 : Int32) => (ap1 (va_up I 32 x_12) fun (I_14 : Nat → Int32) => (ap1 (I_14 32) fun (y_16 : Int32) => (ap1 ((y_16) - (1 : Int32)) fun (x_17 : Int32) => (x_17, I_14, J, r_8, r_11, rq)))))))) else ((-1 : Int32), I, J, ri, rj, rq))) := rfl
set_option maxHeartbeats 4000000 in
set_option maxRecDepth 100000 in
theorem s_X1_dig (l : Launch) (D : va_G) (t : pq_T) (σ : pq_S) (I : Nat → Nat → Int32) (J : Nat → Nat → Int64) (ri : Nat → Nat → Int32) (rj : Nat → Nat → Int64) (rq : Nat → Nat → Option Nat) (sz : Nat) (tg : Nat → Nat) (hSH : SH σ tg) (hG0 : GS tg σ I ri rq) (this : Nat) (a0 : Int32) (hL_this : this ∈ σ.1) (hK_this : σ.2.1 this = 1) (h_a0 : rg a0 0 39) (M : Nat) (hL_M : M ∈ σ.1) (hK_M : σ.2.1 M = 10) (hO_this : this = vo σ 1 M) : MetI l yX1_dig (wa yX1_dig cX1_dig 2 (some .int)) ({ frames := 0, cells := 0, slots := 0, locals := 0 }) [.ref this, .int a0] D t σ (I, J, ri, rj, rq) sz 0 0 (fun (r : Int32) (u : pq_S × pq_M) => ∃ I' : Nat → Nat → Int32, ∃ ri' : Nat → Nat → Int32, ∃ rj' : Nat → Nat → Int64, u = (σ, I', J, ri', rj', rq) ∧ GX [1033, 1034, 32] tg σ I ri rj I' ri' rj' rq ∧ g_X1_dig a0 (vI 10 σ M I) (vJ 10 σ M J) (vR 10 σ M ri) (vL 10 σ M rj) (vQ 10 σ M rq) = (r, (vI 10 σ M I'), (vJ 10 σ M J), (vR 10 σ M ri'), (vL 10 σ M rj'), (vQ 10 σ M rq)) ∧ FR 10 tg σ M (I, J, ri, rj, rq) (I', J, ri', rj', rq) ∧ rg r (-1) 29) := by
  refine Met.ofW (cc := cX1_dig) (maxL := 2) (ret := (some .int)) (by decide) rfl ?_
  intro p e s m args below meth c s₁ B hml hv
  obtain ⟨rfl, hsz, hP, hK, hD0, hN⟩ := hv
  have hx := B.exec
  have hb := B.bytes
  have hr := B.returns
  have hts := atoms_spec (ws := (wa yX1_dig cX1_dig 2 (some .int))) B.pre
  have hown : s.vm.findClass RX1 = some m.cls := findClass_of_methodNamed B.named
  have hlocks := B.notSynchronized
  subst hsz
  have hD : va_D (pq_B t σ (I, J, ri, rj, rq) s.heap.size) (pq_P t σ (I, J, ri, rj, rq)) := hD0.self
  generalize hAe : pq_B t σ (I, J, ri, rj, rq) s.heap.size = A at hD ⊢
  have hA : ∀ q : Nat, s.heap.size ≤ q → A q := fun q h => by rw [← hAe]; exact Or.inr h
  have hS : va_S A s.heap s.heap [] := va_S.rf
  have hG : GX [1033, 1034, 32] tg σ I ri rj I ri rj rq := ⟨hG0, fun _ _ _ => rfl, fun _ _ _ _ _ => rfl, fun _ _ _ _ _ => rfl⟩
  have hl := lv_entry ([.ref this, .int a0]) (n := 2) (Nat.le_of_ble_eq_true rfl)
  rw [lg_entry_eq]
  generalize (lg_sl ([.ref this, .int a0]) ++ List.replicate (2 - (lg_sl ([.ref this, .int a0])).length) Slot.unset).toArray = ls at hl ⊢
  have hl : lv_has ls 2 [(0, .ref this), (1, .int a0)] := hl
  refine q_gen (fun Q hQ => ?_)
  have go : ∀ (H : Heap) (locs : List Loc) (ls : Array Slot), va_P D vwCl (pq_P t σ (I, J, ri, rj, rq)) H → va_D A (pq_P t σ (I, J, ri, rj, rq)) → va_S A s.heap H locs → lv_has ls 2 [(0, .ref this), (1, .int a0)] → W p l e ({ frames := 0, cells := 0, slots := 0, locals := 0 } : Room) s m (List.toArray ([.ref this, .int a0] : List Value)) below meth c H locs 0 0 Q (F0 m 0 ls []) := by
    intro H locs ls hP hD hS hl
    have hVT : VT 10 σ tg M := vt_10 hSH hL_M hK_M
    have hFr : FR 10 tg σ M (I, J, ri, rj, rq) (I, J, ri, rj, rq) := fr_rf
    obtain ⟨F, hF0⟩ : ∃ F, F = g_X1_dig a0 (vI 10 σ M I) (vJ 10 σ M J) (vR 10 σ M ri) (vL 10 σ M rj) (vQ 10 σ M rq) := ⟨_, rfl⟩
    have hF := hF0.trans g_X1_dig_e
    refine lv_aload_n hx hb dX1_dig_0 rfl (lv_at hl 0 rfl) ?_
    refine pg_f (v := .int (I 32 this)) (C := RX1) (T := TX1) (N := 3) hx hb hts (tw_i inlX1) hown hK hP hL_this hK_this (by decide) rfl 0 (by decide) (hts _ (tw_c tw_1393)) rfl dX1_dig_1 ?_
    have h_1 : rg (I 32 this) 0 30 := GX.rI hG 32 rfl
    replace hF := hF.trans (ap_n (vI_e (f := 32) hO_this (by decide)))
    refine lv_bipush (v := 30) hx hb dX1_dig_4 (by decide) ?_
    refine lv_icmp_lt (tgt := 11) hx hb dX1_dig_6 (by decide) (fun c_3 => ?_) (fun c_3 => ?_)
    · replace hF := hF.trans (if_pos c_3)
      have h_6 : rg (I 32 this) 0 29 := rg_lt1 c_3 h_1 (rg_k (30 : Int32) 30 rfl) (by decide)
      refine lv_aload_n hx hb dX1_dig_11 rfl (lv_at hl 0 rfl) ?_
      obtain ⟨w_7, hR_w_7, hL_w_7, hK_w_7, hN_w_7, hT_w_7⟩ := sh_a hSH 33 (ci := 1) (kd := 13) (len := 30) rfl (by decide) hL_this hK_this
      have hO_w_7 : w_7 = vrow σ 33 M := vo_k (c := 1) hO_this hR_w_7
      refine pg_f (v := .ref w_7) (C := RX1) (T := TX1) (N := 3) hx hb hts (tw_i inlX1) hown hK hP hL_this hK_this (by decide) rfl 1 (by decide) (hts _ (tw_c tw_137)) (pq_hv rfl hR_w_7) dX1_dig_12 ?_
      refine lv_aload_n hx hb dX1_dig_15 rfl (lv_at hl 0 rfl) ?_
      refine pg_f (v := .int (I 32 this)) (C := RX1) (T := TX1) (N := 3) hx hb hts (tw_i inlX1) hown hK hP hL_this hK_this (by decide) rfl 0 (by decide) (hts _ (tw_c tw_1393)) rfl dX1_dig_16 ?_
      refine lv_iload_n hx hb dX1_dig_19 rfl (lv_at hl 1 rfl) ?_
      refine pt_i hx hb hK hP hD hS hL_w_7 hK_w_7 hN_w_7 (rg_in h_6 (by decide)) dX1_dig_20 (fun r_8 H locs er_8 hP hD hS => ?_)
      replace hFr := fr_R hFr hO_w_7 (by decide) er_8
      replace hF := hF.trans (ap_n (vR_st hVT hO_w_7 (by decide) er_8))
      have hG := GX.wR hG hSH hT_w_7 rfl er_8 (rg_w h_a0 (by decide)) (by decide)
      refine lv_aload_n hx hb dX1_dig_21 rfl (lv_at hl 0 rfl) ?_
      obtain ⟨w_9, hR_w_9, hL_w_9, hK_w_9, hN_w_9, hT_w_9⟩ := sh_a hSH 34 (ci := 1) (kd := 14) (len := 30) rfl (by decide) hL_this hK_this
      have hO_w_9 : w_9 = vrow σ 34 M := vo_k (c := 1) hO_this hR_w_9
      refine pg_f (v := .ref w_9) (C := RX1) (T := TX1) (N := 3) hx hb hts (tw_i inlX1) hown hK hP hL_this hK_this (by decide) rfl 2 (by decide) (hts _ (tw_c tw_138)) (pq_hv rfl hR_w_9) dX1_dig_22 ?_
      refine lv_aload_n hx hb dX1_dig_25 rfl (lv_at hl 0 rfl) ?_
      refine pg_f (v := .int (I 32 this)) (C := RX1) (T := TX1) (N := 3) hx hb hts (tw_i inlX1) hown hK hP hL_this hK_this (by decide) rfl 0 (by decide) (hts _ (tw_c tw_1393)) rfl dX1_dig_26 ?_
      refine lv_lconst (v := 1) hx hb dX1_dig_29 (by decide) ?_
      refine lv_iload_n hx hb dX1_dig_30 rfl (lv_at hl 1 rfl) ?_
      refine lv_lshl hx hb dX1_dig_31 rfl ?_
      refine lv_topl (fun x_10 ex_10 => ?_)
      replace hF := hF.trans (ap_n ex_10)
      refine pt_l hx hb hK hP hD hS hL_w_9 hK_w_9 hN_w_9 (rg_in h_6 (by decide)) dX1_dig_32 (fun r_11 H locs er_11 hP hD hS => ?_)
      replace hFr := fr_L hFr hO_w_9 (by decide) er_11
      replace hF := hF.trans (ap_n (vL_st hVT hO_w_9 (by decide) er_11))
      have hG := GX.wJ hG hT_w_9 er_11 (by decide)
      refine lv_aload_n hx hb dX1_dig_33 rfl (lv_at hl 0 rfl) ?_
      refine lv_dup hx hb dX1_dig_34 rfl ?_
      refine pg_f (v := .int (I 32 this)) (C := RX1) (T := TX1) (N := 3) hx hb hts (tw_i inlX1) hown hK hP hL_this hK_this (by decide) rfl 0 (by decide) (hts _ (tw_c tw_1393)) rfl dX1_dig_35 ?_
      refine lv_iconst (v := 1) hx hb dX1_dig_38 (by decide) ?_
      refine lv_iadd hx hb dX1_dig_39 ?_
      refine lv_topi (fun x_12 ex_12 => ?_)
      replace hF := hF.trans (ap_n ex_12)
      have h_13 : rg x_12 1 30 := rg_of_eq ex_12 (rg_add h_6 (rg_k (1 : Int32) 1 rfl) (by decide))
      refine pp_i (v := x_12) (ty := .int) (C := RX1) (T := TX1) (N := 3) hx hb hts (tw_i inlX1) tyX1 tyX1_ok nmX1 hown hK hP hD hS hL_this hK_this (by decide) rfl 0 32 (by decide) (hts _ (tw_c tw_1393)) rfl (tyX1_ok 0 (by decide)) rfl rfl (Nat.le_of_ble_eq_true rfl) (ps_32 _ _ _ _ _) dX1_dig_40 (fun I_14 H locs eI_14 hP hD hS => ?_)
      replace hFr := fr_I (f := 32) hFr hO_this (by decide) eI_14
      replace hF := hF.trans (ap_n (vI_st (f := 32) hO_this (by decide) eI_14))
      have hG := GX.wI hG 32 rfl eI_14 (rg_w h_13 (by decide)) (by decide)
      refine lv_aload_n hx hb dX1_dig_43 rfl (lv_at hl 0 rfl) ?_
      refine pg_f (v := .int (I_14 32 this)) (C := RX1) (T := TX1) (N := 3) hx hb hts (tw_i inlX1) hown hK hP hL_this hK_this (by decide) rfl 0 (by decide) (hts _ (tw_c tw_1393)) rfl dX1_dig_44 ?_
      have h_15 : rg (I_14 32 this) 1 30 := (by rw [eI_14, pq_us]; exact h_13)
      replace hF := hF.trans (ap_n (vI_e (f := 32) hO_this (by decide)))
      refine lv_iconst (v := 1) hx hb dX1_dig_47 (by decide) ?_
      refine lv_isub hx hb dX1_dig_48 ?_
      refine lv_topi (fun x_17 ex_17 => ?_)
      replace hF := hF.trans (ap_n ex_17)
      have h_18 : rg x_17 0 29 := rg_of_eq ex_17 (rg_sub h_15 (rg_k (1 : Int32) 1 rfl) (by decide))
      subst hQ
      exact W.iret (v := x_17) hx hb hr (fun t1 ht hW => ⟨⟨x_17, (σ, I_14, J, r_8, r_11, rq), rfl, ⟨I_14, r_8, r_11, rfl, hG, (hF0.symm.trans hF), hFr, (rg_w h_18 (by decide))⟩, by rw [ht]; exact hP, va_K.moved hW.alike hK, hD⟩, hS.F ht⟩) hS.2.2 dX1_dig_49
    · replace hF := hF.trans (if_neg c_3)
      have h_19 : rg (I 32 this) 30 30 := rg_le2 (nlt c_3) (rg_k (30 : Int32) 30 rfl) h_1 (by decide)
      refine lv_iconst (v := (-1)) hx hb dX1_dig_9 (by decide) ?_
      subst hQ
      exact W.iret (v := (-1)) hx hb hr (fun t1 ht hW => ⟨⟨(-1), (σ, I, J, ri, rj, rq), rfl, ⟨I, ri, rj, rfl, hG, (hF0.symm.trans hF), hFr, (rg_w (rg_k (-1 : Int32) (-1) rfl) (by decide))⟩, by rw [ht]; exact hP, va_K.moved hW.alike hK, hD⟩, hS.F ht⟩) hS.2.2 dX1_dig_10
  exact go _ _ _ hP hD hS hl

set_option maxRecDepth 100000 in
def g_X1_carry (a0 : Int32) (a1 : Int32) (I : Nat → Int32) (J : Nat → Int64) (ri : Nat → Nat → Int32) (rj : Nat → Nat → Int64) (rq : Nat → Nat → Option Nat) : Int32 × vM := (ap1 (ri 33 (a0).toNatClampNeg) fun (x_2 : Int32) => (if x_2 = a1 then ((0 : Int32), I, J, ri, rj, rq) else (ap1 (va_up ri 33 (upd (ri 33) (a0).toNatClampNeg a1)) fun (r_5 : Nat → Nat → Int32) => (ap1 (rj 34 (a0).toNatClampNeg) fun (x_7 : Int64) => (ap1 ((1 : Int64) <<< (a1.toInt64 &&& 63)) fun (x_8 : Int64) => (ap1 (x_7 ||| x_8) fun (x_9 : Int64) => (ap1 (va_up rj 34 (vp_updL (rj 34) (a0).toNatClampNeg x_9)) fun (r_10 : Nat → Nat → Int64) => ((1 : Int32), I, J, r_5, r_10, rq))))))))
set_option maxRecDepth 100000 in
theorem g_X1_carry_e {a0 : Int32} {a1 : Int32} {I : Nat → Int32} {J : Nat → Int64} {ri : Nat → Nat → Int32} {rj : Nat → Nat → Int64} {rq : Nat → Nat → Option Nat} : g_X1_carry a0 a1 I J ri rj rq = (ap1 (ri 33 (a0).toNatClampNeg) fun (x_2 : Int32) => (if x_2 = a1 then ((0 : Int32), I, J, ri, rj, rq) else (ap1 (va_up ri 33 (upd (ri 33) (a0).toNatClampNeg a1)) fun (r_5 : Nat → Nat → Int32) => (ap1 (rj 34 (a0).toNatClampNeg) fun (x_7 : Int64) => (ap1 ((1 : Int64) <<< (a1.toInt64 &&& 63)) fun (x_8 : Int64) => (ap1 (x_7 ||| x_8) fun (x_9 : Int64) => (ap1 (va_up rj 34 (vp_updL (rj 34) (a0).toNatClampNeg x_9)) fun (r_10 : Nat → Nat → Int64) => ((1 : Int32), I, J, r_5, r_10, rq)))))))) := rfl
set_option maxHeartbeats 4000000 in
set_option maxRecDepth 100000 in
theorem s_X1_carry (l : Launch) (D : va_G) (t : pq_T) (σ : pq_S) (I : Nat → Nat → Int32) (J : Nat → Nat → Int64) (ri : Nat → Nat → Int32) (rj : Nat → Nat → Int64) (rq : Nat → Nat → Option Nat) (sz : Nat) (tg : Nat → Nat) (hSH : SH σ tg) (hG0 : GS tg σ I ri rq) (this : Nat) (a0 : Int32) (a1 : Int32) (hL_this : this ∈ σ.1) (hK_this : σ.2.1 this = 1) (h_a0 : rg a0 0 29) (h_a1 : rg a1 0 39) (M : Nat) (hL_M : M ∈ σ.1) (hK_M : σ.2.1 M = 10) (hO_this : this = vo σ 1 M) : MetI l yX1_carry (wa yX1_carry cX1_carry 3 (some .boolean)) ({ frames := 0, cells := 0, slots := 0, locals := 0 }) [.ref this, .int a0, .int a1] D t σ (I, J, ri, rj, rq) sz 0 0 (fun (r : Int32) (u : pq_S × pq_M) => ∃ ri' : Nat → Nat → Int32, ∃ rj' : Nat → Nat → Int64, u = (σ, I, J, ri', rj', rq) ∧ GX [1033, 1034] tg σ I ri rj I ri' rj' rq ∧ g_X1_carry a0 a1 (vI 10 σ M I) (vJ 10 σ M J) (vR 10 σ M ri) (vL 10 σ M rj) (vQ 10 σ M rq) = (r, (vI 10 σ M I), (vJ 10 σ M J), (vR 10 σ M ri'), (vL 10 σ M rj'), (vQ 10 σ M rq)) ∧ FR 10 tg σ M (I, J, ri, rj, rq) (I, J, ri', rj', rq) ∧ ((r = 1 ∧ True) ∨ (r = 0 ∧ True))) := by
  refine Met.ofW (cc := cX1_carry) (maxL := 3) (ret := (some .boolean)) (by decide) rfl ?_
  intro p e s m args below meth c s₁ B hml hv
  obtain ⟨rfl, hsz, hP, hK, hD0, hN⟩ := hv
  have hx := B.exec
  have hb := B.bytes
  have hr := B.returns
  have hts := atoms_spec (ws := (wa yX1_carry cX1_carry 3 (some .boolean))) B.pre
  have hown : s.vm.findClass RX1 = some m.cls := findClass_of_methodNamed B.named
  have hlocks := B.notSynchronized
  subst hsz
  have hD : va_D (pq_B t σ (I, J, ri, rj, rq) s.heap.size) (pq_P t σ (I, J, ri, rj, rq)) := hD0.self
  generalize hAe : pq_B t σ (I, J, ri, rj, rq) s.heap.size = A at hD ⊢
  have hA : ∀ q : Nat, s.heap.size ≤ q → A q := fun q h => by rw [← hAe]; exact Or.inr h
  have hS : va_S A s.heap s.heap [] := va_S.rf
  have hG : GX [1033, 1034] tg σ I ri rj I ri rj rq := ⟨hG0, fun _ _ _ => rfl, fun _ _ _ _ _ => rfl, fun _ _ _ _ _ => rfl⟩
  have hl := lv_entry ([.ref this, .int a0, .int a1]) (n := 3) (Nat.le_of_ble_eq_true rfl)
  rw [lg_entry_eq]
  generalize (lg_sl ([.ref this, .int a0, .int a1]) ++ List.replicate (3 - (lg_sl ([.ref this, .int a0, .int a1])).length) Slot.unset).toArray = ls at hl ⊢
  have hl : lv_has ls 3 [(0, .ref this), (1, .int a0), (2, .int a1)] := hl
  refine q_gen (fun Q hQ => ?_)
  have go : ∀ (H : Heap) (locs : List Loc) (ls : Array Slot), va_P D vwCl (pq_P t σ (I, J, ri, rj, rq)) H → va_D A (pq_P t σ (I, J, ri, rj, rq)) → va_S A s.heap H locs → lv_has ls 3 [(0, .ref this), (1, .int a0), (2, .int a1)] → W p l e ({ frames := 0, cells := 0, slots := 0, locals := 0 } : Room) s m (List.toArray ([.ref this, .int a0, .int a1] : List Value)) below meth c H locs 0 0 Q (F0 m 0 ls []) := by
    intro H locs ls hP hD hS hl
    have hVT : VT 10 σ tg M := vt_10 hSH hL_M hK_M
    have hFr : FR 10 tg σ M (I, J, ri, rj, rq) (I, J, ri, rj, rq) := fr_rf
    obtain ⟨F, hF0⟩ : ∃ F, F = g_X1_carry a0 a1 (vI 10 σ M I) (vJ 10 σ M J) (vR 10 σ M ri) (vL 10 σ M rj) (vQ 10 σ M rq) := ⟨_, rfl⟩
    have hF := hF0.trans g_X1_carry_e
    refine lv_aload_n hx hb dX1_carry_0 rfl (lv_at hl 0 rfl) ?_
    obtain ⟨w_1, hR_w_1, hL_w_1, hK_w_1, hN_w_1, hT_w_1⟩ := sh_a hSH 33 (ci := 1) (kd := 13) (len := 30) rfl (by decide) hL_this hK_this
    have hO_w_1 : w_1 = vrow σ 33 M := vo_k (c := 1) hO_this hR_w_1
    refine pg_f (v := .ref w_1) (C := RX1) (T := TX1) (N := 3) hx hb hts (tw_i inlX1) hown hK hP hL_this hK_this (by decide) rfl 1 (by decide) (hts _ (tw_c tw_137)) (pq_hv rfl hR_w_1) dX1_carry_1 ?_
    refine lv_iload_n hx hb dX1_carry_4 rfl (lv_at hl 1 rfl) ?_
    refine pl_i hx hb hK hP hL_w_1 hK_w_1 hN_w_1 (rg_in h_a0 (by decide)) dX1_carry_5 ?_
    refine lv_topi (fun x_2 ex_2 => ?_)
    replace hF := hF.trans (ap_n (vR_r hO_w_1 (by decide) ex_2))
    have h_3 : rg x_2 0 39 := rg_of_eq ex_2 (GX.rR hG hT_w_1 rfl)
    refine lv_iload_n hx hb dX1_carry_6 rfl (lv_at hl 2 rfl) ?_
    refine lv_icmp_ne (tgt := 12) hx hb dX1_carry_7 (by decide) (fun c_4 => ?_) (fun c_4 => ?_)
    · replace hF := hF.trans (if_neg c_4)
      refine lv_aload_n hx hb dX1_carry_12 rfl (lv_at hl 0 rfl) ?_
      refine pg_f (v := .ref w_1) (C := RX1) (T := TX1) (N := 3) hx hb hts (tw_i inlX1) hown hK hP hL_this hK_this (by decide) rfl 1 (by decide) (hts _ (tw_c tw_137)) (pq_hv rfl hR_w_1) dX1_carry_13 ?_
      refine lv_iload_n hx hb dX1_carry_16 rfl (lv_at hl 1 rfl) ?_
      refine lv_iload_n hx hb dX1_carry_17 rfl (lv_at hl 2 rfl) ?_
      refine pt_i hx hb hK hP hD hS hL_w_1 hK_w_1 hN_w_1 (rg_in h_a0 (by decide)) dX1_carry_18 (fun r_5 H locs er_5 hP hD hS => ?_)
      replace hFr := fr_R hFr hO_w_1 (by decide) er_5
      replace hF := hF.trans (ap_n (vR_st hVT hO_w_1 (by decide) er_5))
      have hG := GX.wR hG hSH hT_w_1 rfl er_5 (rg_w h_a1 (by decide)) (by decide)
      refine lv_aload_n hx hb dX1_carry_19 rfl (lv_at hl 0 rfl) ?_
      obtain ⟨w_6, hR_w_6, hL_w_6, hK_w_6, hN_w_6, hT_w_6⟩ := sh_a hSH 34 (ci := 1) (kd := 14) (len := 30) rfl (by decide) hL_this hK_this
      have hO_w_6 : w_6 = vrow σ 34 M := vo_k (c := 1) hO_this hR_w_6
      refine pg_f (v := .ref w_6) (C := RX1) (T := TX1) (N := 3) hx hb hts (tw_i inlX1) hown hK hP hL_this hK_this (by decide) rfl 2 (by decide) (hts _ (tw_c tw_138)) (pq_hv rfl hR_w_6) dX1_carry_20 ?_
      refine lv_iload_n hx hb dX1_carry_23 rfl (lv_at hl 1 rfl) ?_
      refine lv_dup2_11 hx hb dX1_carry_24 rfl rfl ?_
      refine pl_l hx hb hK hP hL_w_6 hK_w_6 hN_w_6 (rg_in h_a0 (by decide)) dX1_carry_25 ?_
      refine lv_topl (fun x_7 ex_7 => ?_)
      replace hF := hF.trans (ap_n (vL_r hO_w_6 (by decide) ex_7))
      refine lv_lconst (v := 1) hx hb dX1_carry_26 (by decide) ?_
      refine lv_iload_n hx hb dX1_carry_27 rfl (lv_at hl 2 rfl) ?_
      refine lv_lshl hx hb dX1_carry_28 rfl ?_
      refine lv_topl (fun x_8 ex_8 => ?_)
      replace hF := hF.trans (ap_n ex_8)
      refine lv_lor hx hb dX1_carry_29 ?_
      refine lv_topl (fun x_9 ex_9 => ?_)
      replace hF := hF.trans (ap_n ex_9)
      refine pt_l hx hb hK hP hD hS hL_w_6 hK_w_6 hN_w_6 (rg_in h_a0 (by decide)) dX1_carry_30 (fun r_10 H locs er_10 hP hD hS => ?_)
      replace hFr := fr_L hFr hO_w_6 (by decide) er_10
      replace hF := hF.trans (ap_n (vL_st hVT hO_w_6 (by decide) er_10))
      have hG := GX.wJ hG hT_w_6 er_10 (by decide)
      refine lv_iconst (v := 1) hx hb dX1_carry_31 (by decide) ?_
      subst hQ
      exact W.zret (v := 1) hx hb hr (by decide) (fun t1 ht hW => ⟨⟨1, (σ, I, J, r_5, r_10, rq), rfl, ⟨r_5, r_10, rfl, hG, (hF0.symm.trans hF), hFr, (Or.inl ⟨rfl, trivial⟩)⟩, by rw [ht]; exact hP, va_K.moved hW.alike hK, hD⟩, hS.F ht⟩) hS.2.2 dX1_carry_32
    · replace hF := hF.trans (if_pos c_4)
      refine lv_iconst (v := 0) hx hb dX1_carry_10 (by decide) ?_
      subst hQ
      exact W.zret (v := 0) hx hb hr (by decide) (fun t1 ht hW => ⟨⟨0, (σ, I, J, ri, rj, rq), rfl, ⟨ri, rj, rfl, hG, (hF0.symm.trans hF), hFr, (Or.inr ⟨rfl, trivial⟩)⟩, by rw [ht]; exact hP, va_K.moved hW.alike hK, hD⟩, hS.F ht⟩) hS.2.2 dX1_carry_11
  exact go _ _ _ hP hD hS hl

set_option maxRecDepth 100000 in
def g_X1_whereNow_K44 (x_780 : Int32) (k_g_X1_whereNow_L5 : (Int32) → (Int32) → Int32 × vM) (x_839 : Int32) : Int32 × vM := (ap1 (x_780 + Int32.ofInt 1) fun (x_843 : Int32) => (k_g_X1_whereNow_L5 x_839 x_843))
set_option maxRecDepth 100000 in
theorem g_X1_whereNow_K44_e {x_780 : Int32} {k_g_X1_whereNow_L5 : (Int32) → (Int32) → Int32 × vM} {x_839 : Int32} : g_X1_whereNow_K44 x_780 k_g_X1_whereNow_L5 x_839 = (ap1 (x_780 + Int32.ofInt 1) fun (x_843 : Int32) => (k_g_X1_whereNow_L5 x_839 x_843)) := rfl
set_option maxRecDepth 100000 in
def g_X1_whereNow_L5 (a0 : Int32) (a1 : Int32) (I : Nat → Int32) (J : Nat → Int64) (ri : Nat → Nat → Int32) (rj : Nat → Nat → Int64) (rq : Nat → Nat → Option Nat) : Nat → (Int32) → (Int32) → Int32 × vM
  | 0, x_779, x_780 => ((0 : Int32), I, J, ri, rj, rq)
  | n_809 + 1, x_779, x_780 => (ap1 (I 32) fun (y_815 : Int32) => (if (y_815) ≤ x_780 then ((-1 : Int32), I, J, ri, rj, rq) else (ap1 (rj 34 (x_780).toNatClampNeg) fun (x_822 : Int64) => (ap1 (g_X11_hasBit x_822 a0) fun (x_823 : Int32) => (if x_823 = (0 : Int32) then (g_X1_whereNow_K44 x_780 (g_X1_whereNow_L5 a0 a1 I J ri rj rq n_809) x_779) else (if x_779 = a1 then (ap1 (ri 33 (x_780).toNatClampNeg) fun (x_853 : Int32) => (x_853, I, J, ri, rj, rq)) else (ap1 (x_779 + Int32.ofInt 1) fun (x_851 : Int32) => (g_X1_whereNow_K44 x_780 (g_X1_whereNow_L5 a0 a1 I J ri rj rq n_809) x_851))))))))
set_option maxRecDepth 100000 in
theorem g_X1_whereNow_L5_e {a0 : Int32} {a1 : Int32} {I : Nat → Int32} {J : Nat → Int64} {ri : Nat → Nat → Int32} {rj : Nat → Nat → Int64} {rq : Nat → Nat → Option Nat} {n_809 : Nat} {x_779 : Int32} {x_780 : Int32} : g_X1_whereNow_L5 a0 a1 I J ri rj rq (n_809 + 1) x_779 x_780 = (ap1 (I 32) fun (y_815 : Int32) => (if (y_815) ≤ x_780 then ((-1 : Int32), I, J, ri, rj, rq) else (ap1 (rj 34 (x_780).toNatClampNeg) fun (x_822 : Int64) => (ap1 (g_X11_hasBit x_822 a0) fun (x_823 : Int32) => (if x_823 = (0 : Int32) then (g_X1_whereNow_K44 x_780 (g_X1_whereNow_L5 a0 a1 I J ri rj rq n_809) x_779) else (if x_779 = a1 then (ap1 (ri 33 (x_780).toNatClampNeg) fun (x_853 : Int32) => (x_853, I, J, ri, rj, rq)) else (ap1 (x_779 + Int32.ofInt 1) fun (x_851 : Int32) => (g_X1_whereNow_K44 x_780 (g_X1_whereNow_L5 a0 a1 I J ri rj rq n_809) x_851)))))))) := rfl
set_option maxRecDepth 100000 in
def g_X1_whereNow (a0 : Int32) (a1 : Int32) (I : Nat → Int32) (J : Nat → Int64) (ri : Nat → Nat → Int32) (rj : Nat → Nat → Int64) (rq : Nat → Nat → Option Nat) : Int32 × vM := (g_X1_whereNow_L5 a0 a1 I J ri rj rq ((30 - ((0 : Int32)).toInt).toNat + 1) (0 : Int32) (0 : Int32))
set_option maxRecDepth 100000 in
theorem g_X1_whereNow_e {a0 : Int32} {a1 : Int32} {I : Nat → Int32} {J : Nat → Int64} {ri : Nat → Nat → Int32} {rj : Nat → Nat → Int64} {rq : Nat → Nat → Option Nat} : g_X1_whereNow a0 a1 I J ri rj rq = (g_X1_whereNow_L5 a0 a1 I J ri rj rq ((30 - ((0 : Int32)).toInt).toNat + 1) (0 : Int32) (0 : Int32)) := rfl
set_option maxHeartbeats 4000000 in
set_option maxRecDepth 100000 in
theorem s_X1_whereNow (l : Launch) (D : va_G) (t : pq_T) (σ : pq_S) (I : Nat → Nat → Int32) (J : Nat → Nat → Int64) (ri : Nat → Nat → Int32) (rj : Nat → Nat → Int64) (rq : Nat → Nat → Option Nat) (sz : Nat) (tg : Nat → Nat) (hSH : SH σ tg) (hG0 : GS tg σ I ri rq) (this : Nat) (a0 : Int32) (a1 : Int32) (hL_this : this ∈ σ.1) (hK_this : σ.2.1 this = 1) (M : Nat) (hL_M : M ∈ σ.1) (hK_M : σ.2.1 M = 10) (hO_this : this = vo σ 1 M) : MetI l yX1_whereNow (wa yX1_whereNow cX1_whereNow 5 (some .int)) ({ frames := 1, cells := 0, slots := 0, locals := 22 }) [.ref this, .int a0, .int a1] D t σ (I, J, ri, rj, rq) sz 0 0 (fun (r : Int32) (u : pq_S × pq_M) => u = (σ, I, J, ri, rj, rq) ∧ g_X1_whereNow a0 a1 (vI 10 σ M I) (vJ 10 σ M J) (vR 10 σ M ri) (vL 10 σ M rj) (vQ 10 σ M rq) = (r, (vI 10 σ M I), (vJ 10 σ M J), (vR 10 σ M ri), (vL 10 σ M rj), (vQ 10 σ M rq)) ∧ rg r (-1) 39) := by
  refine Met.ofW (cc := cX1_whereNow) (maxL := 5) (ret := (some .int)) (by decide) rfl ?_
  intro p e s m args below meth c s₁ B hml hv
  obtain ⟨rfl, hsz, hP, hK, hD0, hN⟩ := hv
  have hx := B.exec
  have hb := B.bytes
  have hr := B.returns
  have hts := atoms_spec (ws := (wa yX1_whereNow cX1_whereNow 5 (some .int))) B.pre
  have hown : s.vm.findClass RX1 = some m.cls := findClass_of_methodNamed B.named
  have hlocks := B.notSynchronized
  subst hsz
  have hD : va_D (pq_B t σ (I, J, ri, rj, rq) s.heap.size) (pq_P t σ (I, J, ri, rj, rq)) := hD0.self
  generalize hAe : pq_B t σ (I, J, ri, rj, rq) s.heap.size = A at hD ⊢
  have hA : ∀ q : Nat, s.heap.size ≤ q → A q := fun q h => by rw [← hAe]; exact Or.inr h
  have hS : va_S A s.heap s.heap [] := va_S.rf
  have hG : GX [] tg σ I ri rj I ri rj rq := ⟨hG0, fun _ _ _ => rfl, fun _ _ _ _ _ => rfl, fun _ _ _ _ _ => rfl⟩
  have hl := lv_entry ([.ref this, .int a0, .int a1]) (n := 5) (Nat.le_of_ble_eq_true rfl)
  rw [lg_entry_eq]
  generalize (lg_sl ([.ref this, .int a0, .int a1]) ++ List.replicate (5 - (lg_sl ([.ref this, .int a0, .int a1])).length) Slot.unset).toArray = ls at hl ⊢
  have hl : lv_has ls 5 [(0, .ref this), (1, .int a0), (2, .int a1)] := hl
  refine q_gen (fun Q hQ => ?_)
  have go : ∀ (H : Heap) (locs : List Loc) (ls : Array Slot), va_P D vwCl (pq_P t σ (I, J, ri, rj, rq)) H → va_D A (pq_P t σ (I, J, ri, rj, rq)) → va_S A s.heap H locs → lv_has ls 5 [(0, .ref this), (1, .int a0), (2, .int a1)] → W p l e ({ frames := 1, cells := 0, slots := 0, locals := 22 } : Room) s m (List.toArray ([.ref this, .int a0, .int a1] : List Value)) below meth c H locs 0 0 Q (F0 m 0 ls []) := by
    intro H locs ls hP hD hS hl
    have hVT : VT 10 σ tg M := vt_10 hSH hL_M hK_M
    have hFr : FR 10 tg σ M (I, J, ri, rj, rq) (I, J, ri, rj, rq) := fr_rf
    obtain ⟨F, hF0⟩ : ∃ F, F = g_X1_whereNow a0 a1 (vI 10 σ M I) (vJ 10 σ M J) (vR 10 σ M ri) (vL 10 σ M rj) (vQ 10 σ M rq) := ⟨_, rfl⟩
    have hF := hF0.trans g_X1_whereNow_e
    refine lv_iconst (v := 0) hx hb dX1_whereNow_0 (by decide) ?_
    refine lv_istore_n (lv' := [(3, .int 0), (0, .ref this), (1, .int a0), (2, .int a1)]) hx hb dX1_whereNow_1 rfl hl (by decide) rfl (fun ls hl => ?_)
    refine lv_iconst (v := 0) hx hb dX1_whereNow_2 (by decide) ?_
    refine lv_istore (lv' := [(4, .int 0), (3, .int 0), (0, .ref this), (1, .int a0), (2, .int a1)]) hx hb dX1_whereNow_3 hl (by decide) rfl (fun ls hl => ?_)
    have L_810 : ∀ (n_809 : Nat) (x_779 : Int32) (x_780 : Int32) (H : Heap) (locs : List Loc) (ls : Array Slot), rg x_780 0 30 → (30 - (x_780).toInt).toNat < n_809 → F = g_X1_whereNow_L5 a0 a1 (vI 10 σ M I) (vJ 10 σ M J) (vR 10 σ M ri) (vL 10 σ M rj) (vQ 10 σ M rq) n_809 x_779 x_780 → FR 10 tg σ M (I, J, ri, rj, rq) (I, J, ri, rj, rq) → GX [] tg σ I ri rj I ri rj rq → va_P D vwCl (pq_P t σ (I, J, ri, rj, rq)) H → va_D A (pq_P t σ (I, J, ri, rj, rq)) → va_S A s.heap H locs → lv_has ls 5 [(0, .ref this), (1, .int a0), (2, .int a1), (3, .int x_779), (4, .int x_780)] → W p l e ({ frames := 1, cells := 0, slots := 0, locals := 22 } : Room) s m (List.toArray ([.ref this, .int a0, .int a1] : List Value)) below meth c H locs 0 0 Q (F0 m 5 ls []) := by
      intro n_809
      induction n_809 with
      | zero => intro x_779 x_780 H locs ls h_813 hm_808 hF hFr hG hP hD hS hl; exact absurd hm_808 (Nat.not_lt_zero _)
      | succ n_809 ih_811 =>
        intro x_779 x_780 H locs ls h_813 hm_808 hF hFr hG hP hD hS hl
        replace hF := hF.trans g_X1_whereNow_L5_e
        refine lv_iload hx hb dX1_whereNow_5 (lv_at hl 4 rfl) ?_
        refine lv_aload_n hx hb dX1_whereNow_7 rfl (lv_at hl 0 rfl) ?_
        refine pg_f (v := .int (I 32 this)) (C := RX1) (T := TX1) (N := 3) hx hb hts (tw_i inlX1) hown hK hP hL_this hK_this (by decide) rfl 0 (by decide) (hts _ (tw_c tw_1393)) rfl dX1_whereNow_8 ?_
        have h_814 : rg (I 32 this) 0 30 := GX.rI hG 32 rfl
        replace hF := hF.trans (ap_n (vI_e (f := 32) hO_this (by decide)))
        refine lv_icmp_ge (tgt := 50) hx hb dX1_whereNow_11 (by decide) (fun c_816 => ?_) (fun c_816 => ?_)
        · replace hF := hF.trans (if_pos c_816)
          refine lv_iconst (v := (-1)) hx hb dX1_whereNow_50 (by decide) ?_
          subst hQ
          exact W.iret (v := (-1)) hx hb hr (fun t1 ht hW => ⟨⟨(-1), (σ, I, J, ri, rj, rq), rfl, ⟨rfl, (hF0.symm.trans hF), (rg_w (rg_k (-1 : Int32) (-1) rfl) (by decide))⟩, by rw [ht]; exact hP, va_K.moved hW.alike hK, hD⟩, hS.F ht⟩) hS.2.2 dX1_whereNow_51
        · replace hF := hF.trans (if_neg c_816)
          have h_819 : rg x_780 0 29 := rg_lt1 (nle c_816) h_813 h_814 (by decide)
          have h_820 : rg (I 32 this) 1 30 := rg_lt2 (nle c_816) h_813 h_814 (by decide)
          refine lv_aload_n hx hb dX1_whereNow_14 rfl (lv_at hl 0 rfl) ?_
          obtain ⟨w_821, hR_w_821, hL_w_821, hK_w_821, hN_w_821, hT_w_821⟩ := sh_a hSH 34 (ci := 1) (kd := 14) (len := 30) rfl (by decide) hL_this hK_this
          have hO_w_821 : w_821 = vrow σ 34 M := vo_k (c := 1) hO_this hR_w_821
          refine pg_f (v := .ref w_821) (C := RX1) (T := TX1) (N := 3) hx hb hts (tw_i inlX1) hown hK hP hL_this hK_this (by decide) rfl 2 (by decide) (hts _ (tw_c tw_138)) (pq_hv rfl hR_w_821) dX1_whereNow_15 ?_
          refine lv_iload hx hb dX1_whereNow_18 (lv_at hl 4 rfl) ?_
          refine pl_l hx hb hK hP hL_w_821 hK_w_821 hN_w_821 (rg_in h_819 (by decide)) dX1_whereNow_20 ?_
          refine lv_topl (fun x_822 ex_822 => ?_)
          replace hF := hF.trans (ap_n (vL_r hO_w_821 (by decide) ex_822))
          refine lv_iload_n hx hb dX1_whereNow_21 rfl (lv_at hl 1 rfl) ?_
          refine pk_i (va_runSN (As := [.long x_822, .int a0]) (rest := []) ⟨hx, hb, hml, hown, hts⟩ (s_X11_hasBit l D t σ I J ri rj rq H.size tg hSH hG.1 x_822 a0) ⟨va_cnB (host := "RingsUnder") 2 hts (tw_W tw_560) rfl rfl rfl (nl_25 hN) (hts _ (tw_c tw_2)) cd_yX11_hasBit_2 ⟨Nat.le_of_ble_eq_true rfl, Nat.le_of_ble_eq_true rfl⟩, hts (.static yX11_hasBit) (tw_c tq_static_yX11_hasBit), trivial⟩ ⟨pq_blind, pq_pre hK hN hP hD⟩ rfl rfl hl.1 rfl (lv_room (Nat.le_of_ble_eq_true rfl)) dX1_whereNow_22 ⟨Nat.le_of_ble_eq_true rfl, Nat.le_of_ble_eq_true rfl⟩) hD hS hA (fun x_823 σ1 μ1 H locs hw_824 hP hD hS => ?_)
          obtain ⟨hu_825, hfn_828, hr_827⟩ := hw_824
          obtain ⟨hu_825a, hu_825b⟩ := Prod.mk.inj hu_825
          rw [hu_825a, hu_825b] at hP hD
          replace hF := hF.trans (ap_n hfn_828.symm)
          have h_830 : rg x_823 0 1 := by rcases hr_827 with ⟨q, -⟩ | ⟨q, -⟩ <;> rw [q] <;> exact ⟨by decide, by decide⟩
          have K_842 : ∀  (x_839 : Int32) (H : Heap) (locs : List Loc) (ls : Array Slot), F = g_X1_whereNow_K44 x_780 (g_X1_whereNow_L5 a0 a1 (vI 10 σ M I) (vJ 10 σ M J) (vR 10 σ M ri) (vL 10 σ M rj) (vQ 10 σ M rq) n_809) x_839 → FR 10 tg σ M (I, J, ri, rj, rq) (I, J, ri, rj, rq) → GX [] tg σ I ri rj I ri rj rq → va_P D vwCl (pq_P t σ (I, J, ri, rj, rq)) H → va_D A (pq_P t σ (I, J, ri, rj, rq)) → va_S A s.heap H locs → lv_has ls 5 [(0, .ref this), (1, .int a0), (2, .int a1), (3, .int x_839), (4, .int x_780)] → W p l e ({ frames := 1, cells := 0, slots := 0, locals := 22 } : Room) s m (List.toArray ([.ref this, .int a0, .int a1] : List Value)) below meth c H locs 0 0 Q (F0 m 44 ls []) := by
            intro x_839 H locs ls hF hFr hG hP hD hS hl
            replace hF := hF.trans g_X1_whereNow_K44_e
            obtain ⟨x_843, ex_843⟩ : ∃ y : Int32, y = x_780 + Int32.ofInt 1 := ⟨_, rfl⟩
            replace hF := hF.trans (ap_n ex_843)
            have h_844 : rg x_843 1 30 := rg_of_eq ex_843 (rg_add h_819 (rg_k (Int32.ofInt 1) 1 rfl) (by decide))
            refine lv_iinc (v := x_843) (lv' := [(4, .int x_843), (0, .ref this), (1, .int a0), (2, .int a1), (3, .int x_839)]) hx hb dX1_whereNow_44 hl (k := 4) rfl ex_843.symm (by decide) rfl (fun ls hl => ?_)
            refine lv_goto (tgt := 5) hx hb dX1_whereNow_47 (by decide) ?_
            exact ih_811 x_839 x_843 _ _ _ (rg_w h_844 (by decide)) (ms_up 1 hm_808 ex_843 rfl (by decide) h_819 (by decide) (by decide)) hF hFr hG hP hD hS (lv_sub hl [1, 2, 3, 4, 0] rfl)
          refine lv_if_eq (tgt := 44) hx hb dX1_whereNow_25 (by decide) (fun c_845 => ?_) (fun c_845 => ?_)
          · replace hF := hF.trans (if_pos c_845)
            have h_848 : rg x_823 0 0 := rg_and h_830 (rg_of_eq c_845 (rg_k (0 : Int32) 0 rfl)) (by decide)
            exact K_842 x_779 _ _ _ hF hFr hG hP hD hS (lv_sub hl [0, 1, 2, 3, 4] rfl)
          · replace hF := hF.trans (if_neg c_845)
            have h_849 : rg x_823 1 1 := rg_ne c_845 h_830 0 rfl (by decide)
            refine lv_iload_n hx hb dX1_whereNow_28 rfl (lv_at hl 3 rfl) ?_
            refine lv_iload_n hx hb dX1_whereNow_29 rfl (lv_at hl 2 rfl) ?_
            refine lv_icmp_ne (tgt := 41) hx hb dX1_whereNow_30 (by decide) (fun c_850 => ?_) (fun c_850 => ?_)
            · replace hF := hF.trans (if_neg c_850)
              obtain ⟨x_851, ex_851⟩ : ∃ y : Int32, y = x_779 + Int32.ofInt 1 := ⟨_, rfl⟩
              replace hF := hF.trans (ap_n ex_851)
              refine lv_iinc (v := x_851) (lv' := [(3, .int x_851), (0, .ref this), (1, .int a0), (2, .int a1), (4, .int x_780)]) hx hb dX1_whereNow_41 hl (k := 3) rfl ex_851.symm (by decide) rfl (fun ls hl => ?_)
              exact K_842 x_851 _ _ _ hF hFr hG hP hD hS (lv_sub hl [1, 2, 3, 0, 4] rfl)
            · replace hF := hF.trans (if_pos c_850)
              refine lv_aload_n hx hb dX1_whereNow_33 rfl (lv_at hl 0 rfl) ?_
              obtain ⟨w_852, hR_w_852, hL_w_852, hK_w_852, hN_w_852, hT_w_852⟩ := sh_a hSH 33 (ci := 1) (kd := 13) (len := 30) rfl (by decide) hL_this hK_this
              have hO_w_852 : w_852 = vrow σ 33 M := vo_k (c := 1) hO_this hR_w_852
              refine pg_f (v := .ref w_852) (C := RX1) (T := TX1) (N := 3) hx hb hts (tw_i inlX1) hown hK hP hL_this hK_this (by decide) rfl 1 (by decide) (hts _ (tw_c tw_137)) (pq_hv rfl hR_w_852) dX1_whereNow_34 ?_
              refine lv_iload hx hb dX1_whereNow_37 (lv_at hl 4 rfl) ?_
              refine pl_i hx hb hK hP hL_w_852 hK_w_852 hN_w_852 (rg_in h_819 (by decide)) dX1_whereNow_39 ?_
              refine lv_topi (fun x_853 ex_853 => ?_)
              replace hF := hF.trans (ap_n (vR_r hO_w_852 (by decide) ex_853))
              have h_854 : rg x_853 0 39 := rg_of_eq ex_853 (GX.rR hG hT_w_852 rfl)
              subst hQ
              exact W.iret (v := x_853) hx hb hr (fun t1 ht hW => ⟨⟨x_853, (σ, I, J, ri, rj, rq), rfl, ⟨rfl, (hF0.symm.trans hF), (rg_w h_854 (by decide))⟩, by rw [ht]; exact hP, va_K.moved hW.alike hK, hD⟩, hS.F ht⟩) hS.2.2 dX1_whereNow_40
    exact L_810 _ (0 : Int32) (0 : Int32) _ _ _ (rg_w (rg_k (0 : Int32) 0 rfl) (by decide)) (Nat.lt_succ_self _) hF hFr hG hP hD hS (lv_sub hl [2, 3, 4, 1, 0] rfl)
  exact go _ _ _ hP hD hS hl

set_option maxHeartbeats 4000000 in
set_option maxRecDepth 100000 in
theorem s_X11_copy_69_69 (l : Launch) (D : va_G) (t : pq_T) (σ : pq_S) (I : Nat → Nat → Int32) (J : Nat → Nat → Int64) (ri : Nat → Nat → Int32) (rj : Nat → Nat → Int64) (rq : Nat → Nat → Option Nat) (sz : Nat) (tg : Nat → Nat) (hSH : SH σ tg) (hG0 : GS tg σ I ri rq) (a0 : Nat) (a1 : Nat) (hL_a0 : a0 ∈ σ.1) (hK_a0 : σ.2.1 a0 = 13) (hN_a0 : σ.2.2.2 a0 = 40) (hT_a0 : tg a0 = 69) (hL_a1 : a1 ∈ σ.1) (hK_a1 : σ.2.1 a1 = 13) (hN_a1 : σ.2.2.2 a1 = 40) (hT_a1 : tg a1 = 69) : MetV l yX11_copy (wa yX11_copy cX11_copy 2 none) ({ frames := 1, cells := 0, slots := 0, locals := 60 }) [.ref a0, .ref a1] D t σ (I, J, ri, rj, rq) sz 0 0 (fun (u : pq_S × pq_M) => ∃ ri' : Nat → Nat → Int32, u = (σ, I, J, ri', rj, rq) ∧ GX [1069] tg σ I ri rj I ri' rj rq ∧ (∀ j, j < 40 → ri' a1 j = ri a0 j) ∧ (∀ q, q ≠ a1 → ri' q = ri q) ∧ (ri' = va_up ri a1 (va_cpy (ri a0) (ri a1) 0 0 40))) := by
  refine Met.ofW (cc := cX11_copy) (maxL := 2) (ret := none) (by decide) rfl ?_
  intro p e s m args below meth c s₁ B hml hv
  obtain ⟨rfl, hsz, hP, hK, hD0, hN⟩ := hv
  have hx := B.exec
  have hb := B.bytes
  have hr := B.returns
  have hts := atoms_spec (ws := (wa yX11_copy cX11_copy 2 none)) B.pre
  have hown : s.vm.findClass RX11 = some m.cls := findClass_of_methodNamed B.named
  have hlocks := B.notSynchronized
  subst hsz
  have hD : va_D (pq_B t σ (I, J, ri, rj, rq) s.heap.size) (pq_P t σ (I, J, ri, rj, rq)) := hD0.self
  generalize hAe : pq_B t σ (I, J, ri, rj, rq) s.heap.size = A at hD ⊢
  have hA : ∀ q : Nat, s.heap.size ≤ q → A q := fun q h => by rw [← hAe]; exact Or.inr h
  have hS : va_S A s.heap s.heap [] := va_S.rf
  have hG : GX [1069] tg σ I ri rj I ri rj rq := ⟨hG0, fun _ _ _ => rfl, fun _ _ _ _ _ => rfl, fun _ _ _ _ _ => rfl⟩
  have hl := lv_entry ([.ref a0, .ref a1]) (n := 2) (Nat.le_of_ble_eq_true rfl)
  rw [lg_entry_eq]
  generalize (lg_sl ([.ref a0, .ref a1]) ++ List.replicate (2 - (lg_sl ([.ref a0, .ref a1])).length) Slot.unset).toArray = ls at hl ⊢
  have hl : lv_has ls 2 [(0, .ref a0), (1, .ref a1)] := hl
  refine q_gen (fun Q hQ => ?_)
  have go : ∀ (H : Heap) (locs : List Loc) (ls : Array Slot), va_P D vwCl (pq_P t σ (I, J, ri, rj, rq)) H → va_D A (pq_P t σ (I, J, ri, rj, rq)) → va_S A s.heap H locs → lv_has ls 2 [(0, .ref a0), (1, .ref a1)] → W p l e ({ frames := 1, cells := 0, slots := 0, locals := 60 } : Room) s m (List.toArray ([.ref a0, .ref a1] : List Value)) below meth c H locs 0 0 Q (F0 m 0 ls []) := by
    intro H locs ls hP hD hS hl
    refine lv_aload_n hx hb dX11_copy_0 rfl (lv_at hl 0 rfl) ?_
    refine lv_iconst (v := 0) hx hb dX11_copy_1 (by decide) ?_
    refine lv_aload_n hx hb dX11_copy_2 rfl (lv_at hl 1 rfl) ?_
    refine lv_iconst (v := 0) hx hb dX11_copy_3 (by decide) ?_
    refine lv_aload_n hx hb dX11_copy_4 rfl (lv_at hl 0 rfl) ?_
    refine pn_i (v := 40) hx hb hK hP hL_a0 hK_a0 hN_a0 (by decide) dX11_copy_5 ?_
    refine lv_aload_n hx hb dX11_copy_6 rfl (lv_at hl 1 rfl) ?_
    refine pn_i (v := 40) hx hb hK hP hL_a1 hK_a1 hN_a1 (by decide) dX11_copy_7 ?_
    refine va_mmin hx hb (hml.trans hl.1.symm) hown (hts _ (tw_c tw_1103)) (hts _ (tw_c tw_467)) (hts _ (tw_c tw_276)) (hts _ (tw_c tw_468)) (Nat.le_of_ble_eq_true rfl) (Nat.le_of_ble_eq_true rfl) (Nat.zero_le _) (Nat.zero_le _) dX11_copy_8 ?_
    refine lv_topi (fun x_1 ex_1 => ?_)
    have h_2 : rg x_1 40 40 := rg_of_eq ex_1 (rg_min2 (rg_k (40 : Int32) 40 rfl) (rg_k (40 : Int32) 40 rfl) (by decide))
    refine pc_i hx hb (hml.trans hl.1.symm) hown (hts _ (tw_c tw_1104)) (hts _ (tw_c tw_1105)) (hts _ (tw_c tw_1106)) (hts _ (tw_c tw_1107)) hK hP hD hS hL_a0 hK_a0 hN_a0 hL_a1 hK_a1 hN_a1 (rg_pos (rg_k (0 : Int32) 0 rfl) (by decide)) (rg_pos h_2 (by decide)) (rg_cp (rg_k (0 : Int32) 0 rfl) h_2 (by decide)) (rg_cl h_2 (by decide)) (Nat.le_of_ble_eq_true rfl) (Nat.le_of_ble_eq_true rfl) dX11_copy_11 (fun r_3 H locs er_3 hP hD hS => ?_)
    have hG := GX.cR hG hSH hT_a0 rfl hT_a1 rfl er_3 (by decide)
    subst hQ
    exact W.vret hx hb hr (fun t1 ht hW => ⟨⟨(σ, I, J, r_3, rj, rq), rfl, ⟨r_3, rfl, hG, (cpy_eq er_3 h_2 rfl), (fun q hq => by rw [er_3, va_up_ne _ _ hq]), (by rw [er_3, show (x_1).toNatClampNeg = 40 from by have z_i := clampE x_1; have z_r := h_2; have z_1 := z_r.1; have z_2 := z_r.2; omega]; rfl)⟩, by rw [ht]; exact hP, va_K.moved hW.alike hK, hD⟩, hS.F ht⟩) hS.2.2 dX11_copy_14
  exact go _ _ _ hP hD hS hl

set_option maxHeartbeats 4000000 in
set_option maxRecDepth 100000 in
theorem s_X11_copy_70_70 (l : Launch) (D : va_G) (t : pq_T) (σ : pq_S) (I : Nat → Nat → Int32) (J : Nat → Nat → Int64) (ri : Nat → Nat → Int32) (rj : Nat → Nat → Int64) (rq : Nat → Nat → Option Nat) (sz : Nat) (tg : Nat → Nat) (hSH : SH σ tg) (hG0 : GS tg σ I ri rq) (a0 : Nat) (a1 : Nat) (hL_a0 : a0 ∈ σ.1) (hK_a0 : σ.2.1 a0 = 13) (hN_a0 : σ.2.2.2 a0 = 40) (hT_a0 : tg a0 = 70) (hL_a1 : a1 ∈ σ.1) (hK_a1 : σ.2.1 a1 = 13) (hN_a1 : σ.2.2.2 a1 = 40) (hT_a1 : tg a1 = 70) : MetV l yX11_copy (wa yX11_copy cX11_copy 2 none) ({ frames := 1, cells := 0, slots := 0, locals := 60 }) [.ref a0, .ref a1] D t σ (I, J, ri, rj, rq) sz 0 0 (fun (u : pq_S × pq_M) => ∃ ri' : Nat → Nat → Int32, u = (σ, I, J, ri', rj, rq) ∧ GX [1070] tg σ I ri rj I ri' rj rq ∧ (∀ j, j < 40 → ri' a1 j = ri a0 j) ∧ (∀ q, q ≠ a1 → ri' q = ri q) ∧ (ri' = va_up ri a1 (va_cpy (ri a0) (ri a1) 0 0 40))) := by
  refine Met.ofW (cc := cX11_copy) (maxL := 2) (ret := none) (by decide) rfl ?_
  intro p e s m args below meth c s₁ B hml hv
  obtain ⟨rfl, hsz, hP, hK, hD0, hN⟩ := hv
  have hx := B.exec
  have hb := B.bytes
  have hr := B.returns
  have hts := atoms_spec (ws := (wa yX11_copy cX11_copy 2 none)) B.pre
  have hown : s.vm.findClass RX11 = some m.cls := findClass_of_methodNamed B.named
  have hlocks := B.notSynchronized
  subst hsz
  have hD : va_D (pq_B t σ (I, J, ri, rj, rq) s.heap.size) (pq_P t σ (I, J, ri, rj, rq)) := hD0.self
  generalize hAe : pq_B t σ (I, J, ri, rj, rq) s.heap.size = A at hD ⊢
  have hA : ∀ q : Nat, s.heap.size ≤ q → A q := fun q h => by rw [← hAe]; exact Or.inr h
  have hS : va_S A s.heap s.heap [] := va_S.rf
  have hG : GX [1070] tg σ I ri rj I ri rj rq := ⟨hG0, fun _ _ _ => rfl, fun _ _ _ _ _ => rfl, fun _ _ _ _ _ => rfl⟩
  have hl := lv_entry ([.ref a0, .ref a1]) (n := 2) (Nat.le_of_ble_eq_true rfl)
  rw [lg_entry_eq]
  generalize (lg_sl ([.ref a0, .ref a1]) ++ List.replicate (2 - (lg_sl ([.ref a0, .ref a1])).length) Slot.unset).toArray = ls at hl ⊢
  have hl : lv_has ls 2 [(0, .ref a0), (1, .ref a1)] := hl
  refine q_gen (fun Q hQ => ?_)
  have go : ∀ (H : Heap) (locs : List Loc) (ls : Array Slot), va_P D vwCl (pq_P t σ (I, J, ri, rj, rq)) H → va_D A (pq_P t σ (I, J, ri, rj, rq)) → va_S A s.heap H locs → lv_has ls 2 [(0, .ref a0), (1, .ref a1)] → W p l e ({ frames := 1, cells := 0, slots := 0, locals := 60 } : Room) s m (List.toArray ([.ref a0, .ref a1] : List Value)) below meth c H locs 0 0 Q (F0 m 0 ls []) := by
    intro H locs ls hP hD hS hl
    refine lv_aload_n hx hb dX11_copy_0 rfl (lv_at hl 0 rfl) ?_
    refine lv_iconst (v := 0) hx hb dX11_copy_1 (by decide) ?_
    refine lv_aload_n hx hb dX11_copy_2 rfl (lv_at hl 1 rfl) ?_
    refine lv_iconst (v := 0) hx hb dX11_copy_3 (by decide) ?_
    refine lv_aload_n hx hb dX11_copy_4 rfl (lv_at hl 0 rfl) ?_
    refine pn_i (v := 40) hx hb hK hP hL_a0 hK_a0 hN_a0 (by decide) dX11_copy_5 ?_
    refine lv_aload_n hx hb dX11_copy_6 rfl (lv_at hl 1 rfl) ?_
    refine pn_i (v := 40) hx hb hK hP hL_a1 hK_a1 hN_a1 (by decide) dX11_copy_7 ?_
    refine va_mmin hx hb (hml.trans hl.1.symm) hown (hts _ (tw_c tw_1103)) (hts _ (tw_c tw_467)) (hts _ (tw_c tw_276)) (hts _ (tw_c tw_468)) (Nat.le_of_ble_eq_true rfl) (Nat.le_of_ble_eq_true rfl) (Nat.zero_le _) (Nat.zero_le _) dX11_copy_8 ?_
    refine lv_topi (fun x_1 ex_1 => ?_)
    have h_2 : rg x_1 40 40 := rg_of_eq ex_1 (rg_min2 (rg_k (40 : Int32) 40 rfl) (rg_k (40 : Int32) 40 rfl) (by decide))
    refine pc_i hx hb (hml.trans hl.1.symm) hown (hts _ (tw_c tw_1104)) (hts _ (tw_c tw_1105)) (hts _ (tw_c tw_1106)) (hts _ (tw_c tw_1107)) hK hP hD hS hL_a0 hK_a0 hN_a0 hL_a1 hK_a1 hN_a1 (rg_pos (rg_k (0 : Int32) 0 rfl) (by decide)) (rg_pos h_2 (by decide)) (rg_cp (rg_k (0 : Int32) 0 rfl) h_2 (by decide)) (rg_cl h_2 (by decide)) (Nat.le_of_ble_eq_true rfl) (Nat.le_of_ble_eq_true rfl) dX11_copy_11 (fun r_3 H locs er_3 hP hD hS => ?_)
    have hG := GX.cR hG hSH hT_a0 rfl hT_a1 rfl er_3 (by decide)
    subst hQ
    exact W.vret hx hb hr (fun t1 ht hW => ⟨⟨(σ, I, J, r_3, rj, rq), rfl, ⟨r_3, rfl, hG, (cpy_eq er_3 h_2 rfl), (fun q hq => by rw [er_3, va_up_ne _ _ hq]), (by rw [er_3, show (x_1).toNatClampNeg = 40 from by have z_i := clampE x_1; have z_r := h_2; have z_1 := z_r.1; have z_2 := z_r.2; omega]; rfl)⟩, by rw [ht]; exact hP, va_K.moved hW.alike hK, hD⟩, hS.F ht⟩) hS.2.2 dX11_copy_14
  exact go _ _ _ hP hD hS hl

set_option maxHeartbeats 4000000 in
set_option maxRecDepth 100000 in
theorem s_X11_copy_71_71 (l : Launch) (D : va_G) (t : pq_T) (σ : pq_S) (I : Nat → Nat → Int32) (J : Nat → Nat → Int64) (ri : Nat → Nat → Int32) (rj : Nat → Nat → Int64) (rq : Nat → Nat → Option Nat) (sz : Nat) (tg : Nat → Nat) (hSH : SH σ tg) (hG0 : GS tg σ I ri rq) (a0 : Nat) (a1 : Nat) (hL_a0 : a0 ∈ σ.1) (hK_a0 : σ.2.1 a0 = 13) (hN_a0 : σ.2.2.2 a0 = 40) (hT_a0 : tg a0 = 71) (hL_a1 : a1 ∈ σ.1) (hK_a1 : σ.2.1 a1 = 13) (hN_a1 : σ.2.2.2 a1 = 40) (hT_a1 : tg a1 = 71) : MetV l yX11_copy (wa yX11_copy cX11_copy 2 none) ({ frames := 1, cells := 0, slots := 0, locals := 60 }) [.ref a0, .ref a1] D t σ (I, J, ri, rj, rq) sz 0 0 (fun (u : pq_S × pq_M) => ∃ ri' : Nat → Nat → Int32, u = (σ, I, J, ri', rj, rq) ∧ GX [1071] tg σ I ri rj I ri' rj rq ∧ (∀ j, j < 40 → ri' a1 j = ri a0 j) ∧ (∀ q, q ≠ a1 → ri' q = ri q) ∧ (ri' = va_up ri a1 (va_cpy (ri a0) (ri a1) 0 0 40))) := by
  refine Met.ofW (cc := cX11_copy) (maxL := 2) (ret := none) (by decide) rfl ?_
  intro p e s m args below meth c s₁ B hml hv
  obtain ⟨rfl, hsz, hP, hK, hD0, hN⟩ := hv
  have hx := B.exec
  have hb := B.bytes
  have hr := B.returns
  have hts := atoms_spec (ws := (wa yX11_copy cX11_copy 2 none)) B.pre
  have hown : s.vm.findClass RX11 = some m.cls := findClass_of_methodNamed B.named
  have hlocks := B.notSynchronized
  subst hsz
  have hD : va_D (pq_B t σ (I, J, ri, rj, rq) s.heap.size) (pq_P t σ (I, J, ri, rj, rq)) := hD0.self
  generalize hAe : pq_B t σ (I, J, ri, rj, rq) s.heap.size = A at hD ⊢
  have hA : ∀ q : Nat, s.heap.size ≤ q → A q := fun q h => by rw [← hAe]; exact Or.inr h
  have hS : va_S A s.heap s.heap [] := va_S.rf
  have hG : GX [1071] tg σ I ri rj I ri rj rq := ⟨hG0, fun _ _ _ => rfl, fun _ _ _ _ _ => rfl, fun _ _ _ _ _ => rfl⟩
  have hl := lv_entry ([.ref a0, .ref a1]) (n := 2) (Nat.le_of_ble_eq_true rfl)
  rw [lg_entry_eq]
  generalize (lg_sl ([.ref a0, .ref a1]) ++ List.replicate (2 - (lg_sl ([.ref a0, .ref a1])).length) Slot.unset).toArray = ls at hl ⊢
  have hl : lv_has ls 2 [(0, .ref a0), (1, .ref a1)] := hl
  refine q_gen (fun Q hQ => ?_)
  have go : ∀ (H : Heap) (locs : List Loc) (ls : Array Slot), va_P D vwCl (pq_P t σ (I, J, ri, rj, rq)) H → va_D A (pq_P t σ (I, J, ri, rj, rq)) → va_S A s.heap H locs → lv_has ls 2 [(0, .ref a0), (1, .ref a1)] → W p l e ({ frames := 1, cells := 0, slots := 0, locals := 60 } : Room) s m (List.toArray ([.ref a0, .ref a1] : List Value)) below meth c H locs 0 0 Q (F0 m 0 ls []) := by
    intro H locs ls hP hD hS hl
    refine lv_aload_n hx hb dX11_copy_0 rfl (lv_at hl 0 rfl) ?_
    refine lv_iconst (v := 0) hx hb dX11_copy_1 (by decide) ?_
    refine lv_aload_n hx hb dX11_copy_2 rfl (lv_at hl 1 rfl) ?_
    refine lv_iconst (v := 0) hx hb dX11_copy_3 (by decide) ?_
    refine lv_aload_n hx hb dX11_copy_4 rfl (lv_at hl 0 rfl) ?_
    refine pn_i (v := 40) hx hb hK hP hL_a0 hK_a0 hN_a0 (by decide) dX11_copy_5 ?_
    refine lv_aload_n hx hb dX11_copy_6 rfl (lv_at hl 1 rfl) ?_
    refine pn_i (v := 40) hx hb hK hP hL_a1 hK_a1 hN_a1 (by decide) dX11_copy_7 ?_
    refine va_mmin hx hb (hml.trans hl.1.symm) hown (hts _ (tw_c tw_1103)) (hts _ (tw_c tw_467)) (hts _ (tw_c tw_276)) (hts _ (tw_c tw_468)) (Nat.le_of_ble_eq_true rfl) (Nat.le_of_ble_eq_true rfl) (Nat.zero_le _) (Nat.zero_le _) dX11_copy_8 ?_
    refine lv_topi (fun x_1 ex_1 => ?_)
    have h_2 : rg x_1 40 40 := rg_of_eq ex_1 (rg_min2 (rg_k (40 : Int32) 40 rfl) (rg_k (40 : Int32) 40 rfl) (by decide))
    refine pc_i hx hb (hml.trans hl.1.symm) hown (hts _ (tw_c tw_1104)) (hts _ (tw_c tw_1105)) (hts _ (tw_c tw_1106)) (hts _ (tw_c tw_1107)) hK hP hD hS hL_a0 hK_a0 hN_a0 hL_a1 hK_a1 hN_a1 (rg_pos (rg_k (0 : Int32) 0 rfl) (by decide)) (rg_pos h_2 (by decide)) (rg_cp (rg_k (0 : Int32) 0 rfl) h_2 (by decide)) (rg_cl h_2 (by decide)) (Nat.le_of_ble_eq_true rfl) (Nat.le_of_ble_eq_true rfl) dX11_copy_11 (fun r_3 H locs er_3 hP hD hS => ?_)
    have hG := GX.cR hG hSH hT_a0 rfl hT_a1 rfl er_3 (by decide)
    subst hQ
    exact W.vret hx hb hr (fun t1 ht hW => ⟨⟨(σ, I, J, r_3, rj, rq), rfl, ⟨r_3, rfl, hG, (cpy_eq er_3 h_2 rfl), (fun q hq => by rw [er_3, va_up_ne _ _ hq]), (by rw [er_3, show (x_1).toNatClampNeg = 40 from by have z_i := clampE x_1; have z_r := h_2; have z_1 := z_r.1; have z_2 := z_r.2; omega]; rfl)⟩, by rw [ht]; exact hP, va_K.moved hW.alike hK, hD⟩, hS.F ht⟩) hS.2.2 dX11_copy_14
  exact go _ _ _ hP hD hS hl

set_option maxHeartbeats 4000000 in
set_option maxRecDepth 100000 in
theorem s_X11_copy_72_72 (l : Launch) (D : va_G) (t : pq_T) (σ : pq_S) (I : Nat → Nat → Int32) (J : Nat → Nat → Int64) (ri : Nat → Nat → Int32) (rj : Nat → Nat → Int64) (rq : Nat → Nat → Option Nat) (sz : Nat) (tg : Nat → Nat) (hSH : SH σ tg) (hG0 : GS tg σ I ri rq) (a0 : Nat) (a1 : Nat) (hL_a0 : a0 ∈ σ.1) (hK_a0 : σ.2.1 a0 = 13) (hN_a0 : σ.2.2.2 a0 = 40) (hT_a0 : tg a0 = 72) (hL_a1 : a1 ∈ σ.1) (hK_a1 : σ.2.1 a1 = 13) (hN_a1 : σ.2.2.2 a1 = 40) (hT_a1 : tg a1 = 72) : MetV l yX11_copy (wa yX11_copy cX11_copy 2 none) ({ frames := 1, cells := 0, slots := 0, locals := 60 }) [.ref a0, .ref a1] D t σ (I, J, ri, rj, rq) sz 0 0 (fun (u : pq_S × pq_M) => ∃ ri' : Nat → Nat → Int32, u = (σ, I, J, ri', rj, rq) ∧ GX [1072] tg σ I ri rj I ri' rj rq ∧ (∀ j, j < 40 → ri' a1 j = ri a0 j) ∧ (∀ q, q ≠ a1 → ri' q = ri q) ∧ (ri' = va_up ri a1 (va_cpy (ri a0) (ri a1) 0 0 40))) := by
  refine Met.ofW (cc := cX11_copy) (maxL := 2) (ret := none) (by decide) rfl ?_
  intro p e s m args below meth c s₁ B hml hv
  obtain ⟨rfl, hsz, hP, hK, hD0, hN⟩ := hv
  have hx := B.exec
  have hb := B.bytes
  have hr := B.returns
  have hts := atoms_spec (ws := (wa yX11_copy cX11_copy 2 none)) B.pre
  have hown : s.vm.findClass RX11 = some m.cls := findClass_of_methodNamed B.named
  have hlocks := B.notSynchronized
  subst hsz
  have hD : va_D (pq_B t σ (I, J, ri, rj, rq) s.heap.size) (pq_P t σ (I, J, ri, rj, rq)) := hD0.self
  generalize hAe : pq_B t σ (I, J, ri, rj, rq) s.heap.size = A at hD ⊢
  have hA : ∀ q : Nat, s.heap.size ≤ q → A q := fun q h => by rw [← hAe]; exact Or.inr h
  have hS : va_S A s.heap s.heap [] := va_S.rf
  have hG : GX [1072] tg σ I ri rj I ri rj rq := ⟨hG0, fun _ _ _ => rfl, fun _ _ _ _ _ => rfl, fun _ _ _ _ _ => rfl⟩
  have hl := lv_entry ([.ref a0, .ref a1]) (n := 2) (Nat.le_of_ble_eq_true rfl)
  rw [lg_entry_eq]
  generalize (lg_sl ([.ref a0, .ref a1]) ++ List.replicate (2 - (lg_sl ([.ref a0, .ref a1])).length) Slot.unset).toArray = ls at hl ⊢
  have hl : lv_has ls 2 [(0, .ref a0), (1, .ref a1)] := hl
  refine q_gen (fun Q hQ => ?_)
  have go : ∀ (H : Heap) (locs : List Loc) (ls : Array Slot), va_P D vwCl (pq_P t σ (I, J, ri, rj, rq)) H → va_D A (pq_P t σ (I, J, ri, rj, rq)) → va_S A s.heap H locs → lv_has ls 2 [(0, .ref a0), (1, .ref a1)] → W p l e ({ frames := 1, cells := 0, slots := 0, locals := 60 } : Room) s m (List.toArray ([.ref a0, .ref a1] : List Value)) below meth c H locs 0 0 Q (F0 m 0 ls []) := by
    intro H locs ls hP hD hS hl
    refine lv_aload_n hx hb dX11_copy_0 rfl (lv_at hl 0 rfl) ?_
    refine lv_iconst (v := 0) hx hb dX11_copy_1 (by decide) ?_
    refine lv_aload_n hx hb dX11_copy_2 rfl (lv_at hl 1 rfl) ?_
    refine lv_iconst (v := 0) hx hb dX11_copy_3 (by decide) ?_
    refine lv_aload_n hx hb dX11_copy_4 rfl (lv_at hl 0 rfl) ?_
    refine pn_i (v := 40) hx hb hK hP hL_a0 hK_a0 hN_a0 (by decide) dX11_copy_5 ?_
    refine lv_aload_n hx hb dX11_copy_6 rfl (lv_at hl 1 rfl) ?_
    refine pn_i (v := 40) hx hb hK hP hL_a1 hK_a1 hN_a1 (by decide) dX11_copy_7 ?_
    refine va_mmin hx hb (hml.trans hl.1.symm) hown (hts _ (tw_c tw_1103)) (hts _ (tw_c tw_467)) (hts _ (tw_c tw_276)) (hts _ (tw_c tw_468)) (Nat.le_of_ble_eq_true rfl) (Nat.le_of_ble_eq_true rfl) (Nat.zero_le _) (Nat.zero_le _) dX11_copy_8 ?_
    refine lv_topi (fun x_1 ex_1 => ?_)
    have h_2 : rg x_1 40 40 := rg_of_eq ex_1 (rg_min2 (rg_k (40 : Int32) 40 rfl) (rg_k (40 : Int32) 40 rfl) (by decide))
    refine pc_i hx hb (hml.trans hl.1.symm) hown (hts _ (tw_c tw_1104)) (hts _ (tw_c tw_1105)) (hts _ (tw_c tw_1106)) (hts _ (tw_c tw_1107)) hK hP hD hS hL_a0 hK_a0 hN_a0 hL_a1 hK_a1 hN_a1 (rg_pos (rg_k (0 : Int32) 0 rfl) (by decide)) (rg_pos h_2 (by decide)) (rg_cp (rg_k (0 : Int32) 0 rfl) h_2 (by decide)) (rg_cl h_2 (by decide)) (Nat.le_of_ble_eq_true rfl) (Nat.le_of_ble_eq_true rfl) dX11_copy_11 (fun r_3 H locs er_3 hP hD hS => ?_)
    have hG := GX.cR hG hSH hT_a0 rfl hT_a1 rfl er_3 (by decide)
    subst hQ
    exact W.vret hx hb hr (fun t1 ht hW => ⟨⟨(σ, I, J, r_3, rj, rq), rfl, ⟨r_3, rfl, hG, (cpy_eq er_3 h_2 rfl), (fun q hq => by rw [er_3, va_up_ne _ _ hq]), (by rw [er_3, show (x_1).toNatClampNeg = 40 from by have z_i := clampE x_1; have z_r := h_2; have z_1 := z_r.1; have z_2 := z_r.2; omega]; rfl)⟩, by rw [ht]; exact hP, va_K.moved hW.alike hK, hD⟩, hS.F ht⟩) hS.2.2 dX11_copy_14
  exact go _ _ _ hP hD hS hl

set_option maxHeartbeats 4000000 in
set_option maxRecDepth 100000 in
theorem s_X11_copy_73_73 (l : Launch) (D : va_G) (t : pq_T) (σ : pq_S) (I : Nat → Nat → Int32) (J : Nat → Nat → Int64) (ri : Nat → Nat → Int32) (rj : Nat → Nat → Int64) (rq : Nat → Nat → Option Nat) (sz : Nat) (tg : Nat → Nat) (hSH : SH σ tg) (hG0 : GS tg σ I ri rq) (a0 : Nat) (a1 : Nat) (hL_a0 : a0 ∈ σ.1) (hK_a0 : σ.2.1 a0 = 13) (hN_a0 : σ.2.2.2 a0 = 40) (hT_a0 : tg a0 = 73) (hL_a1 : a1 ∈ σ.1) (hK_a1 : σ.2.1 a1 = 13) (hN_a1 : σ.2.2.2 a1 = 40) (hT_a1 : tg a1 = 73) : MetV l yX11_copy (wa yX11_copy cX11_copy 2 none) ({ frames := 1, cells := 0, slots := 0, locals := 60 }) [.ref a0, .ref a1] D t σ (I, J, ri, rj, rq) sz 0 0 (fun (u : pq_S × pq_M) => ∃ ri' : Nat → Nat → Int32, u = (σ, I, J, ri', rj, rq) ∧ GX [1073] tg σ I ri rj I ri' rj rq ∧ (∀ j, j < 40 → ri' a1 j = ri a0 j) ∧ (∀ q, q ≠ a1 → ri' q = ri q) ∧ (ri' = va_up ri a1 (va_cpy (ri a0) (ri a1) 0 0 40))) := by
  refine Met.ofW (cc := cX11_copy) (maxL := 2) (ret := none) (by decide) rfl ?_
  intro p e s m args below meth c s₁ B hml hv
  obtain ⟨rfl, hsz, hP, hK, hD0, hN⟩ := hv
  have hx := B.exec
  have hb := B.bytes
  have hr := B.returns
  have hts := atoms_spec (ws := (wa yX11_copy cX11_copy 2 none)) B.pre
  have hown : s.vm.findClass RX11 = some m.cls := findClass_of_methodNamed B.named
  have hlocks := B.notSynchronized
  subst hsz
  have hD : va_D (pq_B t σ (I, J, ri, rj, rq) s.heap.size) (pq_P t σ (I, J, ri, rj, rq)) := hD0.self
  generalize hAe : pq_B t σ (I, J, ri, rj, rq) s.heap.size = A at hD ⊢
  have hA : ∀ q : Nat, s.heap.size ≤ q → A q := fun q h => by rw [← hAe]; exact Or.inr h
  have hS : va_S A s.heap s.heap [] := va_S.rf
  have hG : GX [1073] tg σ I ri rj I ri rj rq := ⟨hG0, fun _ _ _ => rfl, fun _ _ _ _ _ => rfl, fun _ _ _ _ _ => rfl⟩
  have hl := lv_entry ([.ref a0, .ref a1]) (n := 2) (Nat.le_of_ble_eq_true rfl)
  rw [lg_entry_eq]
  generalize (lg_sl ([.ref a0, .ref a1]) ++ List.replicate (2 - (lg_sl ([.ref a0, .ref a1])).length) Slot.unset).toArray = ls at hl ⊢
  have hl : lv_has ls 2 [(0, .ref a0), (1, .ref a1)] := hl
  refine q_gen (fun Q hQ => ?_)
  have go : ∀ (H : Heap) (locs : List Loc) (ls : Array Slot), va_P D vwCl (pq_P t σ (I, J, ri, rj, rq)) H → va_D A (pq_P t σ (I, J, ri, rj, rq)) → va_S A s.heap H locs → lv_has ls 2 [(0, .ref a0), (1, .ref a1)] → W p l e ({ frames := 1, cells := 0, slots := 0, locals := 60 } : Room) s m (List.toArray ([.ref a0, .ref a1] : List Value)) below meth c H locs 0 0 Q (F0 m 0 ls []) := by
    intro H locs ls hP hD hS hl
    refine lv_aload_n hx hb dX11_copy_0 rfl (lv_at hl 0 rfl) ?_
    refine lv_iconst (v := 0) hx hb dX11_copy_1 (by decide) ?_
    refine lv_aload_n hx hb dX11_copy_2 rfl (lv_at hl 1 rfl) ?_
    refine lv_iconst (v := 0) hx hb dX11_copy_3 (by decide) ?_
    refine lv_aload_n hx hb dX11_copy_4 rfl (lv_at hl 0 rfl) ?_
    refine pn_i (v := 40) hx hb hK hP hL_a0 hK_a0 hN_a0 (by decide) dX11_copy_5 ?_
    refine lv_aload_n hx hb dX11_copy_6 rfl (lv_at hl 1 rfl) ?_
    refine pn_i (v := 40) hx hb hK hP hL_a1 hK_a1 hN_a1 (by decide) dX11_copy_7 ?_
    refine va_mmin hx hb (hml.trans hl.1.symm) hown (hts _ (tw_c tw_1103)) (hts _ (tw_c tw_467)) (hts _ (tw_c tw_276)) (hts _ (tw_c tw_468)) (Nat.le_of_ble_eq_true rfl) (Nat.le_of_ble_eq_true rfl) (Nat.zero_le _) (Nat.zero_le _) dX11_copy_8 ?_
    refine lv_topi (fun x_1 ex_1 => ?_)
    have h_2 : rg x_1 40 40 := rg_of_eq ex_1 (rg_min2 (rg_k (40 : Int32) 40 rfl) (rg_k (40 : Int32) 40 rfl) (by decide))
    refine pc_i hx hb (hml.trans hl.1.symm) hown (hts _ (tw_c tw_1104)) (hts _ (tw_c tw_1105)) (hts _ (tw_c tw_1106)) (hts _ (tw_c tw_1107)) hK hP hD hS hL_a0 hK_a0 hN_a0 hL_a1 hK_a1 hN_a1 (rg_pos (rg_k (0 : Int32) 0 rfl) (by decide)) (rg_pos h_2 (by decide)) (rg_cp (rg_k (0 : Int32) 0 rfl) h_2 (by decide)) (rg_cl h_2 (by decide)) (Nat.le_of_ble_eq_true rfl) (Nat.le_of_ble_eq_true rfl) dX11_copy_11 (fun r_3 H locs er_3 hP hD hS => ?_)
    have hG := GX.cR hG hSH hT_a0 rfl hT_a1 rfl er_3 (by decide)
    subst hQ
    exact W.vret hx hb hr (fun t1 ht hW => ⟨⟨(σ, I, J, r_3, rj, rq), rfl, ⟨r_3, rfl, hG, (cpy_eq er_3 h_2 rfl), (fun q hq => by rw [er_3, va_up_ne _ _ hq]), (by rw [er_3, show (x_1).toNatClampNeg = 40 from by have z_i := clampE x_1; have z_r := h_2; have z_1 := z_r.1; have z_2 := z_r.2; omega]; rfl)⟩, by rw [ht]; exact hP, va_K.moved hW.alike hK, hD⟩, hS.F ht⟩) hS.2.2 dX11_copy_14
  exact go _ _ _ hP hD hS hl

set_option maxHeartbeats 4000000 in
set_option maxRecDepth 100000 in
theorem s_X11_copy_74_74 (l : Launch) (D : va_G) (t : pq_T) (σ : pq_S) (I : Nat → Nat → Int32) (J : Nat → Nat → Int64) (ri : Nat → Nat → Int32) (rj : Nat → Nat → Int64) (rq : Nat → Nat → Option Nat) (sz : Nat) (tg : Nat → Nat) (hSH : SH σ tg) (hG0 : GS tg σ I ri rq) (a0 : Nat) (a1 : Nat) (hL_a0 : a0 ∈ σ.1) (hK_a0 : σ.2.1 a0 = 13) (hN_a0 : σ.2.2.2 a0 = 40) (hT_a0 : tg a0 = 74) (hL_a1 : a1 ∈ σ.1) (hK_a1 : σ.2.1 a1 = 13) (hN_a1 : σ.2.2.2 a1 = 40) (hT_a1 : tg a1 = 74) : MetV l yX11_copy (wa yX11_copy cX11_copy 2 none) ({ frames := 1, cells := 0, slots := 0, locals := 60 }) [.ref a0, .ref a1] D t σ (I, J, ri, rj, rq) sz 0 0 (fun (u : pq_S × pq_M) => ∃ ri' : Nat → Nat → Int32, u = (σ, I, J, ri', rj, rq) ∧ GX [1074] tg σ I ri rj I ri' rj rq ∧ (∀ j, j < 40 → ri' a1 j = ri a0 j) ∧ (∀ q, q ≠ a1 → ri' q = ri q) ∧ (ri' = va_up ri a1 (va_cpy (ri a0) (ri a1) 0 0 40))) := by
  refine Met.ofW (cc := cX11_copy) (maxL := 2) (ret := none) (by decide) rfl ?_
  intro p e s m args below meth c s₁ B hml hv
  obtain ⟨rfl, hsz, hP, hK, hD0, hN⟩ := hv
  have hx := B.exec
  have hb := B.bytes
  have hr := B.returns
  have hts := atoms_spec (ws := (wa yX11_copy cX11_copy 2 none)) B.pre
  have hown : s.vm.findClass RX11 = some m.cls := findClass_of_methodNamed B.named
  have hlocks := B.notSynchronized
  subst hsz
  have hD : va_D (pq_B t σ (I, J, ri, rj, rq) s.heap.size) (pq_P t σ (I, J, ri, rj, rq)) := hD0.self
  generalize hAe : pq_B t σ (I, J, ri, rj, rq) s.heap.size = A at hD ⊢
  have hA : ∀ q : Nat, s.heap.size ≤ q → A q := fun q h => by rw [← hAe]; exact Or.inr h
  have hS : va_S A s.heap s.heap [] := va_S.rf
  have hG : GX [1074] tg σ I ri rj I ri rj rq := ⟨hG0, fun _ _ _ => rfl, fun _ _ _ _ _ => rfl, fun _ _ _ _ _ => rfl⟩
  have hl := lv_entry ([.ref a0, .ref a1]) (n := 2) (Nat.le_of_ble_eq_true rfl)
  rw [lg_entry_eq]
  generalize (lg_sl ([.ref a0, .ref a1]) ++ List.replicate (2 - (lg_sl ([.ref a0, .ref a1])).length) Slot.unset).toArray = ls at hl ⊢
  have hl : lv_has ls 2 [(0, .ref a0), (1, .ref a1)] := hl
  refine q_gen (fun Q hQ => ?_)
  have go : ∀ (H : Heap) (locs : List Loc) (ls : Array Slot), va_P D vwCl (pq_P t σ (I, J, ri, rj, rq)) H → va_D A (pq_P t σ (I, J, ri, rj, rq)) → va_S A s.heap H locs → lv_has ls 2 [(0, .ref a0), (1, .ref a1)] → W p l e ({ frames := 1, cells := 0, slots := 0, locals := 60 } : Room) s m (List.toArray ([.ref a0, .ref a1] : List Value)) below meth c H locs 0 0 Q (F0 m 0 ls []) := by
    intro H locs ls hP hD hS hl
    refine lv_aload_n hx hb dX11_copy_0 rfl (lv_at hl 0 rfl) ?_
    refine lv_iconst (v := 0) hx hb dX11_copy_1 (by decide) ?_
    refine lv_aload_n hx hb dX11_copy_2 rfl (lv_at hl 1 rfl) ?_
    refine lv_iconst (v := 0) hx hb dX11_copy_3 (by decide) ?_
    refine lv_aload_n hx hb dX11_copy_4 rfl (lv_at hl 0 rfl) ?_
    refine pn_i (v := 40) hx hb hK hP hL_a0 hK_a0 hN_a0 (by decide) dX11_copy_5 ?_
    refine lv_aload_n hx hb dX11_copy_6 rfl (lv_at hl 1 rfl) ?_
    refine pn_i (v := 40) hx hb hK hP hL_a1 hK_a1 hN_a1 (by decide) dX11_copy_7 ?_
    refine va_mmin hx hb (hml.trans hl.1.symm) hown (hts _ (tw_c tw_1103)) (hts _ (tw_c tw_467)) (hts _ (tw_c tw_276)) (hts _ (tw_c tw_468)) (Nat.le_of_ble_eq_true rfl) (Nat.le_of_ble_eq_true rfl) (Nat.zero_le _) (Nat.zero_le _) dX11_copy_8 ?_
    refine lv_topi (fun x_1 ex_1 => ?_)
    have h_2 : rg x_1 40 40 := rg_of_eq ex_1 (rg_min2 (rg_k (40 : Int32) 40 rfl) (rg_k (40 : Int32) 40 rfl) (by decide))
    refine pc_i hx hb (hml.trans hl.1.symm) hown (hts _ (tw_c tw_1104)) (hts _ (tw_c tw_1105)) (hts _ (tw_c tw_1106)) (hts _ (tw_c tw_1107)) hK hP hD hS hL_a0 hK_a0 hN_a0 hL_a1 hK_a1 hN_a1 (rg_pos (rg_k (0 : Int32) 0 rfl) (by decide)) (rg_pos h_2 (by decide)) (rg_cp (rg_k (0 : Int32) 0 rfl) h_2 (by decide)) (rg_cl h_2 (by decide)) (Nat.le_of_ble_eq_true rfl) (Nat.le_of_ble_eq_true rfl) dX11_copy_11 (fun r_3 H locs er_3 hP hD hS => ?_)
    have hG := GX.cR hG hSH hT_a0 rfl hT_a1 rfl er_3 (by decide)
    subst hQ
    exact W.vret hx hb hr (fun t1 ht hW => ⟨⟨(σ, I, J, r_3, rj, rq), rfl, ⟨r_3, rfl, hG, (cpy_eq er_3 h_2 rfl), (fun q hq => by rw [er_3, va_up_ne _ _ hq]), (by rw [er_3, show (x_1).toNatClampNeg = 40 from by have z_i := clampE x_1; have z_r := h_2; have z_1 := z_r.1; have z_2 := z_r.2; omega]; rfl)⟩, by rw [ht]; exact hP, va_K.moved hW.alike hK, hD⟩, hS.F ht⟩) hS.2.2 dX11_copy_14
  exact go _ _ _ hP hD hS hl

set_option maxHeartbeats 4000000 in
set_option maxRecDepth 100000 in
theorem s_X11_copy_75_75 (l : Launch) (D : va_G) (t : pq_T) (σ : pq_S) (I : Nat → Nat → Int32) (J : Nat → Nat → Int64) (ri : Nat → Nat → Int32) (rj : Nat → Nat → Int64) (rq : Nat → Nat → Option Nat) (sz : Nat) (tg : Nat → Nat) (hSH : SH σ tg) (hG0 : GS tg σ I ri rq) (a0 : Nat) (a1 : Nat) (hL_a0 : a0 ∈ σ.1) (hK_a0 : σ.2.1 a0 = 13) (hN_a0 : σ.2.2.2 a0 = 40) (hT_a0 : tg a0 = 75) (hL_a1 : a1 ∈ σ.1) (hK_a1 : σ.2.1 a1 = 13) (hN_a1 : σ.2.2.2 a1 = 40) (hT_a1 : tg a1 = 75) : MetV l yX11_copy (wa yX11_copy cX11_copy 2 none) ({ frames := 1, cells := 0, slots := 0, locals := 60 }) [.ref a0, .ref a1] D t σ (I, J, ri, rj, rq) sz 0 0 (fun (u : pq_S × pq_M) => ∃ ri' : Nat → Nat → Int32, u = (σ, I, J, ri', rj, rq) ∧ GX [1075] tg σ I ri rj I ri' rj rq ∧ (∀ j, j < 40 → ri' a1 j = ri a0 j) ∧ (∀ q, q ≠ a1 → ri' q = ri q) ∧ (ri' = va_up ri a1 (va_cpy (ri a0) (ri a1) 0 0 40))) := by
  refine Met.ofW (cc := cX11_copy) (maxL := 2) (ret := none) (by decide) rfl ?_
  intro p e s m args below meth c s₁ B hml hv
  obtain ⟨rfl, hsz, hP, hK, hD0, hN⟩ := hv
  have hx := B.exec
  have hb := B.bytes
  have hr := B.returns
  have hts := atoms_spec (ws := (wa yX11_copy cX11_copy 2 none)) B.pre
  have hown : s.vm.findClass RX11 = some m.cls := findClass_of_methodNamed B.named
  have hlocks := B.notSynchronized
  subst hsz
  have hD : va_D (pq_B t σ (I, J, ri, rj, rq) s.heap.size) (pq_P t σ (I, J, ri, rj, rq)) := hD0.self
  generalize hAe : pq_B t σ (I, J, ri, rj, rq) s.heap.size = A at hD ⊢
  have hA : ∀ q : Nat, s.heap.size ≤ q → A q := fun q h => by rw [← hAe]; exact Or.inr h
  have hS : va_S A s.heap s.heap [] := va_S.rf
  have hG : GX [1075] tg σ I ri rj I ri rj rq := ⟨hG0, fun _ _ _ => rfl, fun _ _ _ _ _ => rfl, fun _ _ _ _ _ => rfl⟩
  have hl := lv_entry ([.ref a0, .ref a1]) (n := 2) (Nat.le_of_ble_eq_true rfl)
  rw [lg_entry_eq]
  generalize (lg_sl ([.ref a0, .ref a1]) ++ List.replicate (2 - (lg_sl ([.ref a0, .ref a1])).length) Slot.unset).toArray = ls at hl ⊢
  have hl : lv_has ls 2 [(0, .ref a0), (1, .ref a1)] := hl
  refine q_gen (fun Q hQ => ?_)
  have go : ∀ (H : Heap) (locs : List Loc) (ls : Array Slot), va_P D vwCl (pq_P t σ (I, J, ri, rj, rq)) H → va_D A (pq_P t σ (I, J, ri, rj, rq)) → va_S A s.heap H locs → lv_has ls 2 [(0, .ref a0), (1, .ref a1)] → W p l e ({ frames := 1, cells := 0, slots := 0, locals := 60 } : Room) s m (List.toArray ([.ref a0, .ref a1] : List Value)) below meth c H locs 0 0 Q (F0 m 0 ls []) := by
    intro H locs ls hP hD hS hl
    refine lv_aload_n hx hb dX11_copy_0 rfl (lv_at hl 0 rfl) ?_
    refine lv_iconst (v := 0) hx hb dX11_copy_1 (by decide) ?_
    refine lv_aload_n hx hb dX11_copy_2 rfl (lv_at hl 1 rfl) ?_
    refine lv_iconst (v := 0) hx hb dX11_copy_3 (by decide) ?_
    refine lv_aload_n hx hb dX11_copy_4 rfl (lv_at hl 0 rfl) ?_
    refine pn_i (v := 40) hx hb hK hP hL_a0 hK_a0 hN_a0 (by decide) dX11_copy_5 ?_
    refine lv_aload_n hx hb dX11_copy_6 rfl (lv_at hl 1 rfl) ?_
    refine pn_i (v := 40) hx hb hK hP hL_a1 hK_a1 hN_a1 (by decide) dX11_copy_7 ?_
    refine va_mmin hx hb (hml.trans hl.1.symm) hown (hts _ (tw_c tw_1103)) (hts _ (tw_c tw_467)) (hts _ (tw_c tw_276)) (hts _ (tw_c tw_468)) (Nat.le_of_ble_eq_true rfl) (Nat.le_of_ble_eq_true rfl) (Nat.zero_le _) (Nat.zero_le _) dX11_copy_8 ?_
    refine lv_topi (fun x_1 ex_1 => ?_)
    have h_2 : rg x_1 40 40 := rg_of_eq ex_1 (rg_min2 (rg_k (40 : Int32) 40 rfl) (rg_k (40 : Int32) 40 rfl) (by decide))
    refine pc_i hx hb (hml.trans hl.1.symm) hown (hts _ (tw_c tw_1104)) (hts _ (tw_c tw_1105)) (hts _ (tw_c tw_1106)) (hts _ (tw_c tw_1107)) hK hP hD hS hL_a0 hK_a0 hN_a0 hL_a1 hK_a1 hN_a1 (rg_pos (rg_k (0 : Int32) 0 rfl) (by decide)) (rg_pos h_2 (by decide)) (rg_cp (rg_k (0 : Int32) 0 rfl) h_2 (by decide)) (rg_cl h_2 (by decide)) (Nat.le_of_ble_eq_true rfl) (Nat.le_of_ble_eq_true rfl) dX11_copy_11 (fun r_3 H locs er_3 hP hD hS => ?_)
    have hG := GX.cR hG hSH hT_a0 rfl hT_a1 rfl er_3 (by decide)
    subst hQ
    exact W.vret hx hb hr (fun t1 ht hW => ⟨⟨(σ, I, J, r_3, rj, rq), rfl, ⟨r_3, rfl, hG, (cpy_eq er_3 h_2 rfl), (fun q hq => by rw [er_3, va_up_ne _ _ hq]), (by rw [er_3, show (x_1).toNatClampNeg = 40 from by have z_i := clampE x_1; have z_r := h_2; have z_1 := z_r.1; have z_2 := z_r.2; omega]; rfl)⟩, by rw [ht]; exact hP, va_K.moved hW.alike hK, hD⟩, hS.F ht⟩) hS.2.2 dX11_copy_14
  exact go _ _ _ hP hD hS hl

set_option maxHeartbeats 4000000 in
set_option maxRecDepth 100000 in
theorem s_X11_copy_76_76 (l : Launch) (D : va_G) (t : pq_T) (σ : pq_S) (I : Nat → Nat → Int32) (J : Nat → Nat → Int64) (ri : Nat → Nat → Int32) (rj : Nat → Nat → Int64) (rq : Nat → Nat → Option Nat) (sz : Nat) (tg : Nat → Nat) (hSH : SH σ tg) (hG0 : GS tg σ I ri rq) (a0 : Nat) (a1 : Nat) (hL_a0 : a0 ∈ σ.1) (hK_a0 : σ.2.1 a0 = 13) (hN_a0 : σ.2.2.2 a0 = 40) (hT_a0 : tg a0 = 76) (hL_a1 : a1 ∈ σ.1) (hK_a1 : σ.2.1 a1 = 13) (hN_a1 : σ.2.2.2 a1 = 40) (hT_a1 : tg a1 = 76) : MetV l yX11_copy (wa yX11_copy cX11_copy 2 none) ({ frames := 1, cells := 0, slots := 0, locals := 60 }) [.ref a0, .ref a1] D t σ (I, J, ri, rj, rq) sz 0 0 (fun (u : pq_S × pq_M) => ∃ ri' : Nat → Nat → Int32, u = (σ, I, J, ri', rj, rq) ∧ GX [] tg σ I ri rj I ri' rj rq ∧ (∀ j, j < 40 → ri' a1 j = ri a0 j) ∧ (∀ q, q ≠ a1 → ri' q = ri q) ∧ (ri' = va_up ri a1 (va_cpy (ri a0) (ri a1) 0 0 40))) := by
  refine Met.ofW (cc := cX11_copy) (maxL := 2) (ret := none) (by decide) rfl ?_
  intro p e s m args below meth c s₁ B hml hv
  obtain ⟨rfl, hsz, hP, hK, hD0, hN⟩ := hv
  have hx := B.exec
  have hb := B.bytes
  have hr := B.returns
  have hts := atoms_spec (ws := (wa yX11_copy cX11_copy 2 none)) B.pre
  have hown : s.vm.findClass RX11 = some m.cls := findClass_of_methodNamed B.named
  have hlocks := B.notSynchronized
  subst hsz
  have hD : va_D (pq_B t σ (I, J, ri, rj, rq) s.heap.size) (pq_P t σ (I, J, ri, rj, rq)) := hD0.self
  generalize hAe : pq_B t σ (I, J, ri, rj, rq) s.heap.size = A at hD ⊢
  have hA : ∀ q : Nat, s.heap.size ≤ q → A q := fun q h => by rw [← hAe]; exact Or.inr h
  have hS : va_S A s.heap s.heap [] := va_S.rf
  have hG : GX [] tg σ I ri rj I ri rj rq := ⟨hG0, fun _ _ _ => rfl, fun _ _ _ _ _ => rfl, fun _ _ _ _ _ => rfl⟩
  have hl := lv_entry ([.ref a0, .ref a1]) (n := 2) (Nat.le_of_ble_eq_true rfl)
  rw [lg_entry_eq]
  generalize (lg_sl ([.ref a0, .ref a1]) ++ List.replicate (2 - (lg_sl ([.ref a0, .ref a1])).length) Slot.unset).toArray = ls at hl ⊢
  have hl : lv_has ls 2 [(0, .ref a0), (1, .ref a1)] := hl
  refine q_gen (fun Q hQ => ?_)
  have go : ∀ (H : Heap) (locs : List Loc) (ls : Array Slot), va_P D vwCl (pq_P t σ (I, J, ri, rj, rq)) H → va_D A (pq_P t σ (I, J, ri, rj, rq)) → va_S A s.heap H locs → lv_has ls 2 [(0, .ref a0), (1, .ref a1)] → W p l e ({ frames := 1, cells := 0, slots := 0, locals := 60 } : Room) s m (List.toArray ([.ref a0, .ref a1] : List Value)) below meth c H locs 0 0 Q (F0 m 0 ls []) := by
    intro H locs ls hP hD hS hl
    refine lv_aload_n hx hb dX11_copy_0 rfl (lv_at hl 0 rfl) ?_
    refine lv_iconst (v := 0) hx hb dX11_copy_1 (by decide) ?_
    refine lv_aload_n hx hb dX11_copy_2 rfl (lv_at hl 1 rfl) ?_
    refine lv_iconst (v := 0) hx hb dX11_copy_3 (by decide) ?_
    refine lv_aload_n hx hb dX11_copy_4 rfl (lv_at hl 0 rfl) ?_
    refine pn_i (v := 40) hx hb hK hP hL_a0 hK_a0 hN_a0 (by decide) dX11_copy_5 ?_
    refine lv_aload_n hx hb dX11_copy_6 rfl (lv_at hl 1 rfl) ?_
    refine pn_i (v := 40) hx hb hK hP hL_a1 hK_a1 hN_a1 (by decide) dX11_copy_7 ?_
    refine va_mmin hx hb (hml.trans hl.1.symm) hown (hts _ (tw_c tw_1103)) (hts _ (tw_c tw_467)) (hts _ (tw_c tw_276)) (hts _ (tw_c tw_468)) (Nat.le_of_ble_eq_true rfl) (Nat.le_of_ble_eq_true rfl) (Nat.zero_le _) (Nat.zero_le _) dX11_copy_8 ?_
    refine lv_topi (fun x_1 ex_1 => ?_)
    have h_2 : rg x_1 40 40 := rg_of_eq ex_1 (rg_min2 (rg_k (40 : Int32) 40 rfl) (rg_k (40 : Int32) 40 rfl) (by decide))
    refine pc_i hx hb (hml.trans hl.1.symm) hown (hts _ (tw_c tw_1104)) (hts _ (tw_c tw_1105)) (hts _ (tw_c tw_1106)) (hts _ (tw_c tw_1107)) hK hP hD hS hL_a0 hK_a0 hN_a0 hL_a1 hK_a1 hN_a1 (rg_pos (rg_k (0 : Int32) 0 rfl) (by decide)) (rg_pos h_2 (by decide)) (rg_cp (rg_k (0 : Int32) 0 rfl) h_2 (by decide)) (rg_cl h_2 (by decide)) (Nat.le_of_ble_eq_true rfl) (Nat.le_of_ble_eq_true rfl) dX11_copy_11 (fun r_3 H locs er_3 hP hD hS => ?_)
    have hG := GX.cR hG hSH hT_a0 rfl hT_a1 rfl er_3 (by decide)
    subst hQ
    exact W.vret hx hb hr (fun t1 ht hW => ⟨⟨(σ, I, J, r_3, rj, rq), rfl, ⟨r_3, rfl, hG, (cpy_eq er_3 h_2 rfl), (fun q hq => by rw [er_3, va_up_ne _ _ hq]), (by rw [er_3, show (x_1).toNatClampNeg = 40 from by have z_i := clampE x_1; have z_r := h_2; have z_1 := z_r.1; have z_2 := z_r.2; omega]; rfl)⟩, by rw [ht]; exact hP, va_K.moved hW.alike hK, hD⟩, hS.F ht⟩) hS.2.2 dX11_copy_14
  exact go _ _ _ hP hD hS hl

set_option maxHeartbeats 4000000 in
set_option maxRecDepth 100000 in
theorem s_X11_copy_77_77 (l : Launch) (D : va_G) (t : pq_T) (σ : pq_S) (I : Nat → Nat → Int32) (J : Nat → Nat → Int64) (ri : Nat → Nat → Int32) (rj : Nat → Nat → Int64) (rq : Nat → Nat → Option Nat) (sz : Nat) (tg : Nat → Nat) (hSH : SH σ tg) (hG0 : GS tg σ I ri rq) (a0 : Nat) (a1 : Nat) (hL_a0 : a0 ∈ σ.1) (hK_a0 : σ.2.1 a0 = 13) (hN_a0 : σ.2.2.2 a0 = 40) (hT_a0 : tg a0 = 77) (hL_a1 : a1 ∈ σ.1) (hK_a1 : σ.2.1 a1 = 13) (hN_a1 : σ.2.2.2 a1 = 40) (hT_a1 : tg a1 = 77) : MetV l yX11_copy (wa yX11_copy cX11_copy 2 none) ({ frames := 1, cells := 0, slots := 0, locals := 60 }) [.ref a0, .ref a1] D t σ (I, J, ri, rj, rq) sz 0 0 (fun (u : pq_S × pq_M) => ∃ ri' : Nat → Nat → Int32, u = (σ, I, J, ri', rj, rq) ∧ GX [1077] tg σ I ri rj I ri' rj rq ∧ (∀ j, j < 40 → ri' a1 j = ri a0 j) ∧ (∀ q, q ≠ a1 → ri' q = ri q) ∧ (ri' = va_up ri a1 (va_cpy (ri a0) (ri a1) 0 0 40))) := by
  refine Met.ofW (cc := cX11_copy) (maxL := 2) (ret := none) (by decide) rfl ?_
  intro p e s m args below meth c s₁ B hml hv
  obtain ⟨rfl, hsz, hP, hK, hD0, hN⟩ := hv
  have hx := B.exec
  have hb := B.bytes
  have hr := B.returns
  have hts := atoms_spec (ws := (wa yX11_copy cX11_copy 2 none)) B.pre
  have hown : s.vm.findClass RX11 = some m.cls := findClass_of_methodNamed B.named
  have hlocks := B.notSynchronized
  subst hsz
  have hD : va_D (pq_B t σ (I, J, ri, rj, rq) s.heap.size) (pq_P t σ (I, J, ri, rj, rq)) := hD0.self
  generalize hAe : pq_B t σ (I, J, ri, rj, rq) s.heap.size = A at hD ⊢
  have hA : ∀ q : Nat, s.heap.size ≤ q → A q := fun q h => by rw [← hAe]; exact Or.inr h
  have hS : va_S A s.heap s.heap [] := va_S.rf
  have hG : GX [1077] tg σ I ri rj I ri rj rq := ⟨hG0, fun _ _ _ => rfl, fun _ _ _ _ _ => rfl, fun _ _ _ _ _ => rfl⟩
  have hl := lv_entry ([.ref a0, .ref a1]) (n := 2) (Nat.le_of_ble_eq_true rfl)
  rw [lg_entry_eq]
  generalize (lg_sl ([.ref a0, .ref a1]) ++ List.replicate (2 - (lg_sl ([.ref a0, .ref a1])).length) Slot.unset).toArray = ls at hl ⊢
  have hl : lv_has ls 2 [(0, .ref a0), (1, .ref a1)] := hl
  refine q_gen (fun Q hQ => ?_)
  have go : ∀ (H : Heap) (locs : List Loc) (ls : Array Slot), va_P D vwCl (pq_P t σ (I, J, ri, rj, rq)) H → va_D A (pq_P t σ (I, J, ri, rj, rq)) → va_S A s.heap H locs → lv_has ls 2 [(0, .ref a0), (1, .ref a1)] → W p l e ({ frames := 1, cells := 0, slots := 0, locals := 60 } : Room) s m (List.toArray ([.ref a0, .ref a1] : List Value)) below meth c H locs 0 0 Q (F0 m 0 ls []) := by
    intro H locs ls hP hD hS hl
    refine lv_aload_n hx hb dX11_copy_0 rfl (lv_at hl 0 rfl) ?_
    refine lv_iconst (v := 0) hx hb dX11_copy_1 (by decide) ?_
    refine lv_aload_n hx hb dX11_copy_2 rfl (lv_at hl 1 rfl) ?_
    refine lv_iconst (v := 0) hx hb dX11_copy_3 (by decide) ?_
    refine lv_aload_n hx hb dX11_copy_4 rfl (lv_at hl 0 rfl) ?_
    refine pn_i (v := 40) hx hb hK hP hL_a0 hK_a0 hN_a0 (by decide) dX11_copy_5 ?_
    refine lv_aload_n hx hb dX11_copy_6 rfl (lv_at hl 1 rfl) ?_
    refine pn_i (v := 40) hx hb hK hP hL_a1 hK_a1 hN_a1 (by decide) dX11_copy_7 ?_
    refine va_mmin hx hb (hml.trans hl.1.symm) hown (hts _ (tw_c tw_1103)) (hts _ (tw_c tw_467)) (hts _ (tw_c tw_276)) (hts _ (tw_c tw_468)) (Nat.le_of_ble_eq_true rfl) (Nat.le_of_ble_eq_true rfl) (Nat.zero_le _) (Nat.zero_le _) dX11_copy_8 ?_
    refine lv_topi (fun x_1 ex_1 => ?_)
    have h_2 : rg x_1 40 40 := rg_of_eq ex_1 (rg_min2 (rg_k (40 : Int32) 40 rfl) (rg_k (40 : Int32) 40 rfl) (by decide))
    refine pc_i hx hb (hml.trans hl.1.symm) hown (hts _ (tw_c tw_1104)) (hts _ (tw_c tw_1105)) (hts _ (tw_c tw_1106)) (hts _ (tw_c tw_1107)) hK hP hD hS hL_a0 hK_a0 hN_a0 hL_a1 hK_a1 hN_a1 (rg_pos (rg_k (0 : Int32) 0 rfl) (by decide)) (rg_pos h_2 (by decide)) (rg_cp (rg_k (0 : Int32) 0 rfl) h_2 (by decide)) (rg_cl h_2 (by decide)) (Nat.le_of_ble_eq_true rfl) (Nat.le_of_ble_eq_true rfl) dX11_copy_11 (fun r_3 H locs er_3 hP hD hS => ?_)
    have hG := GX.cR hG hSH hT_a0 rfl hT_a1 rfl er_3 (by decide)
    subst hQ
    exact W.vret hx hb hr (fun t1 ht hW => ⟨⟨(σ, I, J, r_3, rj, rq), rfl, ⟨r_3, rfl, hG, (cpy_eq er_3 h_2 rfl), (fun q hq => by rw [er_3, va_up_ne _ _ hq]), (by rw [er_3, show (x_1).toNatClampNeg = 40 from by have z_i := clampE x_1; have z_r := h_2; have z_1 := z_r.1; have z_2 := z_r.2; omega]; rfl)⟩, by rw [ht]; exact hP, va_K.moved hW.alike hK, hD⟩, hS.F ht⟩) hS.2.2 dX11_copy_14
  exact go _ _ _ hP hD hS hl

set_option maxHeartbeats 4000000 in
set_option maxRecDepth 100000 in
theorem s_X11_copy_288_288 (l : Launch) (D : va_G) (t : pq_T) (σ : pq_S) (I : Nat → Nat → Int32) (J : Nat → Nat → Int64) (ri : Nat → Nat → Int32) (rj : Nat → Nat → Int64) (rq : Nat → Nat → Option Nat) (sz : Nat) (tg : Nat → Nat) (hSH : SH σ tg) (hG0 : GS tg σ I ri rq) (a0 : Nat) (a1 : Nat) (hL_a0 : a0 ∈ σ.1) (hK_a0 : σ.2.1 a0 = 13) (hN_a0 : σ.2.2.2 a0 = 40) (hT_a0 : tg a0 = 288) (hL_a1 : a1 ∈ σ.1) (hK_a1 : σ.2.1 a1 = 13) (hN_a1 : σ.2.2.2 a1 = 40) (hT_a1 : tg a1 = 288) : MetV l yX11_copy (wa yX11_copy cX11_copy 2 none) ({ frames := 1, cells := 0, slots := 0, locals := 60 }) [.ref a0, .ref a1] D t σ (I, J, ri, rj, rq) sz 0 0 (fun (u : pq_S × pq_M) => ∃ ri' : Nat → Nat → Int32, u = (σ, I, J, ri', rj, rq) ∧ GX [1288] tg σ I ri rj I ri' rj rq ∧ (∀ j, j < 40 → ri' a1 j = ri a0 j) ∧ (∀ q, q ≠ a1 → ri' q = ri q) ∧ (ri' = va_up ri a1 (va_cpy (ri a0) (ri a1) 0 0 40))) := by
  refine Met.ofW (cc := cX11_copy) (maxL := 2) (ret := none) (by decide) rfl ?_
  intro p e s m args below meth c s₁ B hml hv
  obtain ⟨rfl, hsz, hP, hK, hD0, hN⟩ := hv
  have hx := B.exec
  have hb := B.bytes
  have hr := B.returns
  have hts := atoms_spec (ws := (wa yX11_copy cX11_copy 2 none)) B.pre
  have hown : s.vm.findClass RX11 = some m.cls := findClass_of_methodNamed B.named
  have hlocks := B.notSynchronized
  subst hsz
  have hD : va_D (pq_B t σ (I, J, ri, rj, rq) s.heap.size) (pq_P t σ (I, J, ri, rj, rq)) := hD0.self
  generalize hAe : pq_B t σ (I, J, ri, rj, rq) s.heap.size = A at hD ⊢
  have hA : ∀ q : Nat, s.heap.size ≤ q → A q := fun q h => by rw [← hAe]; exact Or.inr h
  have hS : va_S A s.heap s.heap [] := va_S.rf
  have hG : GX [1288] tg σ I ri rj I ri rj rq := ⟨hG0, fun _ _ _ => rfl, fun _ _ _ _ _ => rfl, fun _ _ _ _ _ => rfl⟩
  have hl := lv_entry ([.ref a0, .ref a1]) (n := 2) (Nat.le_of_ble_eq_true rfl)
  rw [lg_entry_eq]
  generalize (lg_sl ([.ref a0, .ref a1]) ++ List.replicate (2 - (lg_sl ([.ref a0, .ref a1])).length) Slot.unset).toArray = ls at hl ⊢
  have hl : lv_has ls 2 [(0, .ref a0), (1, .ref a1)] := hl
  refine q_gen (fun Q hQ => ?_)
  have go : ∀ (H : Heap) (locs : List Loc) (ls : Array Slot), va_P D vwCl (pq_P t σ (I, J, ri, rj, rq)) H → va_D A (pq_P t σ (I, J, ri, rj, rq)) → va_S A s.heap H locs → lv_has ls 2 [(0, .ref a0), (1, .ref a1)] → W p l e ({ frames := 1, cells := 0, slots := 0, locals := 60 } : Room) s m (List.toArray ([.ref a0, .ref a1] : List Value)) below meth c H locs 0 0 Q (F0 m 0 ls []) := by
    intro H locs ls hP hD hS hl
    refine lv_aload_n hx hb dX11_copy_0 rfl (lv_at hl 0 rfl) ?_
    refine lv_iconst (v := 0) hx hb dX11_copy_1 (by decide) ?_
    refine lv_aload_n hx hb dX11_copy_2 rfl (lv_at hl 1 rfl) ?_
    refine lv_iconst (v := 0) hx hb dX11_copy_3 (by decide) ?_
    refine lv_aload_n hx hb dX11_copy_4 rfl (lv_at hl 0 rfl) ?_
    refine pn_i (v := 40) hx hb hK hP hL_a0 hK_a0 hN_a0 (by decide) dX11_copy_5 ?_
    refine lv_aload_n hx hb dX11_copy_6 rfl (lv_at hl 1 rfl) ?_
    refine pn_i (v := 40) hx hb hK hP hL_a1 hK_a1 hN_a1 (by decide) dX11_copy_7 ?_
    refine va_mmin hx hb (hml.trans hl.1.symm) hown (hts _ (tw_c tw_1103)) (hts _ (tw_c tw_467)) (hts _ (tw_c tw_276)) (hts _ (tw_c tw_468)) (Nat.le_of_ble_eq_true rfl) (Nat.le_of_ble_eq_true rfl) (Nat.zero_le _) (Nat.zero_le _) dX11_copy_8 ?_
    refine lv_topi (fun x_1 ex_1 => ?_)
    have h_2 : rg x_1 40 40 := rg_of_eq ex_1 (rg_min2 (rg_k (40 : Int32) 40 rfl) (rg_k (40 : Int32) 40 rfl) (by decide))
    refine pc_i hx hb (hml.trans hl.1.symm) hown (hts _ (tw_c tw_1104)) (hts _ (tw_c tw_1105)) (hts _ (tw_c tw_1106)) (hts _ (tw_c tw_1107)) hK hP hD hS hL_a0 hK_a0 hN_a0 hL_a1 hK_a1 hN_a1 (rg_pos (rg_k (0 : Int32) 0 rfl) (by decide)) (rg_pos h_2 (by decide)) (rg_cp (rg_k (0 : Int32) 0 rfl) h_2 (by decide)) (rg_cl h_2 (by decide)) (Nat.le_of_ble_eq_true rfl) (Nat.le_of_ble_eq_true rfl) dX11_copy_11 (fun r_3 H locs er_3 hP hD hS => ?_)
    have hG := GX.cR hG hSH hT_a0 rfl hT_a1 rfl er_3 (by decide)
    subst hQ
    exact W.vret hx hb hr (fun t1 ht hW => ⟨⟨(σ, I, J, r_3, rj, rq), rfl, ⟨r_3, rfl, hG, (cpy_eq er_3 h_2 rfl), (fun q hq => by rw [er_3, va_up_ne _ _ hq]), (by rw [er_3, show (x_1).toNatClampNeg = 40 from by have z_i := clampE x_1; have z_r := h_2; have z_1 := z_r.1; have z_2 := z_r.2; omega]; rfl)⟩, by rw [ht]; exact hP, va_K.moved hW.alike hK, hD⟩, hS.F ht⟩) hS.2.2 dX11_copy_14
  exact go _ _ _ hP hD hS hl

set_option maxHeartbeats 4000000 in
set_option maxRecDepth 100000 in
theorem s_X11_copy_289_289 (l : Launch) (D : va_G) (t : pq_T) (σ : pq_S) (I : Nat → Nat → Int32) (J : Nat → Nat → Int64) (ri : Nat → Nat → Int32) (rj : Nat → Nat → Int64) (rq : Nat → Nat → Option Nat) (sz : Nat) (tg : Nat → Nat) (hSH : SH σ tg) (hG0 : GS tg σ I ri rq) (a0 : Nat) (a1 : Nat) (hL_a0 : a0 ∈ σ.1) (hK_a0 : σ.2.1 a0 = 13) (hN_a0 : σ.2.2.2 a0 = 40) (hT_a0 : tg a0 = 289) (hL_a1 : a1 ∈ σ.1) (hK_a1 : σ.2.1 a1 = 13) (hN_a1 : σ.2.2.2 a1 = 40) (hT_a1 : tg a1 = 289) : MetV l yX11_copy (wa yX11_copy cX11_copy 2 none) ({ frames := 1, cells := 0, slots := 0, locals := 60 }) [.ref a0, .ref a1] D t σ (I, J, ri, rj, rq) sz 0 0 (fun (u : pq_S × pq_M) => ∃ ri' : Nat → Nat → Int32, u = (σ, I, J, ri', rj, rq) ∧ GX [] tg σ I ri rj I ri' rj rq ∧ (∀ j, j < 40 → ri' a1 j = ri a0 j) ∧ (∀ q, q ≠ a1 → ri' q = ri q) ∧ (ri' = va_up ri a1 (va_cpy (ri a0) (ri a1) 0 0 40))) := by
  refine Met.ofW (cc := cX11_copy) (maxL := 2) (ret := none) (by decide) rfl ?_
  intro p e s m args below meth c s₁ B hml hv
  obtain ⟨rfl, hsz, hP, hK, hD0, hN⟩ := hv
  have hx := B.exec
  have hb := B.bytes
  have hr := B.returns
  have hts := atoms_spec (ws := (wa yX11_copy cX11_copy 2 none)) B.pre
  have hown : s.vm.findClass RX11 = some m.cls := findClass_of_methodNamed B.named
  have hlocks := B.notSynchronized
  subst hsz
  have hD : va_D (pq_B t σ (I, J, ri, rj, rq) s.heap.size) (pq_P t σ (I, J, ri, rj, rq)) := hD0.self
  generalize hAe : pq_B t σ (I, J, ri, rj, rq) s.heap.size = A at hD ⊢
  have hA : ∀ q : Nat, s.heap.size ≤ q → A q := fun q h => by rw [← hAe]; exact Or.inr h
  have hS : va_S A s.heap s.heap [] := va_S.rf
  have hG : GX [] tg σ I ri rj I ri rj rq := ⟨hG0, fun _ _ _ => rfl, fun _ _ _ _ _ => rfl, fun _ _ _ _ _ => rfl⟩
  have hl := lv_entry ([.ref a0, .ref a1]) (n := 2) (Nat.le_of_ble_eq_true rfl)
  rw [lg_entry_eq]
  generalize (lg_sl ([.ref a0, .ref a1]) ++ List.replicate (2 - (lg_sl ([.ref a0, .ref a1])).length) Slot.unset).toArray = ls at hl ⊢
  have hl : lv_has ls 2 [(0, .ref a0), (1, .ref a1)] := hl
  refine q_gen (fun Q hQ => ?_)
  have go : ∀ (H : Heap) (locs : List Loc) (ls : Array Slot), va_P D vwCl (pq_P t σ (I, J, ri, rj, rq)) H → va_D A (pq_P t σ (I, J, ri, rj, rq)) → va_S A s.heap H locs → lv_has ls 2 [(0, .ref a0), (1, .ref a1)] → W p l e ({ frames := 1, cells := 0, slots := 0, locals := 60 } : Room) s m (List.toArray ([.ref a0, .ref a1] : List Value)) below meth c H locs 0 0 Q (F0 m 0 ls []) := by
    intro H locs ls hP hD hS hl
    refine lv_aload_n hx hb dX11_copy_0 rfl (lv_at hl 0 rfl) ?_
    refine lv_iconst (v := 0) hx hb dX11_copy_1 (by decide) ?_
    refine lv_aload_n hx hb dX11_copy_2 rfl (lv_at hl 1 rfl) ?_
    refine lv_iconst (v := 0) hx hb dX11_copy_3 (by decide) ?_
    refine lv_aload_n hx hb dX11_copy_4 rfl (lv_at hl 0 rfl) ?_
    refine pn_i (v := 40) hx hb hK hP hL_a0 hK_a0 hN_a0 (by decide) dX11_copy_5 ?_
    refine lv_aload_n hx hb dX11_copy_6 rfl (lv_at hl 1 rfl) ?_
    refine pn_i (v := 40) hx hb hK hP hL_a1 hK_a1 hN_a1 (by decide) dX11_copy_7 ?_
    refine va_mmin hx hb (hml.trans hl.1.symm) hown (hts _ (tw_c tw_1103)) (hts _ (tw_c tw_467)) (hts _ (tw_c tw_276)) (hts _ (tw_c tw_468)) (Nat.le_of_ble_eq_true rfl) (Nat.le_of_ble_eq_true rfl) (Nat.zero_le _) (Nat.zero_le _) dX11_copy_8 ?_
    refine lv_topi (fun x_1 ex_1 => ?_)
    have h_2 : rg x_1 40 40 := rg_of_eq ex_1 (rg_min2 (rg_k (40 : Int32) 40 rfl) (rg_k (40 : Int32) 40 rfl) (by decide))
    refine pc_i hx hb (hml.trans hl.1.symm) hown (hts _ (tw_c tw_1104)) (hts _ (tw_c tw_1105)) (hts _ (tw_c tw_1106)) (hts _ (tw_c tw_1107)) hK hP hD hS hL_a0 hK_a0 hN_a0 hL_a1 hK_a1 hN_a1 (rg_pos (rg_k (0 : Int32) 0 rfl) (by decide)) (rg_pos h_2 (by decide)) (rg_cp (rg_k (0 : Int32) 0 rfl) h_2 (by decide)) (rg_cl h_2 (by decide)) (Nat.le_of_ble_eq_true rfl) (Nat.le_of_ble_eq_true rfl) dX11_copy_11 (fun r_3 H locs er_3 hP hD hS => ?_)
    have hG := GX.cR hG hSH hT_a0 rfl hT_a1 rfl er_3 (by decide)
    subst hQ
    exact W.vret hx hb hr (fun t1 ht hW => ⟨⟨(σ, I, J, r_3, rj, rq), rfl, ⟨r_3, rfl, hG, (cpy_eq er_3 h_2 rfl), (fun q hq => by rw [er_3, va_up_ne _ _ hq]), (by rw [er_3, show (x_1).toNatClampNeg = 40 from by have z_i := clampE x_1; have z_r := h_2; have z_1 := z_r.1; have z_2 := z_r.2; omega]; rfl)⟩, by rw [ht]; exact hP, va_K.moved hW.alike hK, hD⟩, hS.F ht⟩) hS.2.2 dX11_copy_14
  exact go _ _ _ hP hD hS hl

set_option maxHeartbeats 4000000 in
set_option maxRecDepth 100000 in
theorem s_X11_copy_290_290 (l : Launch) (D : va_G) (t : pq_T) (σ : pq_S) (I : Nat → Nat → Int32) (J : Nat → Nat → Int64) (ri : Nat → Nat → Int32) (rj : Nat → Nat → Int64) (rq : Nat → Nat → Option Nat) (sz : Nat) (tg : Nat → Nat) (hSH : SH σ tg) (hG0 : GS tg σ I ri rq) (a0 : Nat) (a1 : Nat) (hL_a0 : a0 ∈ σ.1) (hK_a0 : σ.2.1 a0 = 13) (hN_a0 : σ.2.2.2 a0 = 40) (hT_a0 : tg a0 = 290) (hL_a1 : a1 ∈ σ.1) (hK_a1 : σ.2.1 a1 = 13) (hN_a1 : σ.2.2.2 a1 = 40) (hT_a1 : tg a1 = 290) : MetV l yX11_copy (wa yX11_copy cX11_copy 2 none) ({ frames := 1, cells := 0, slots := 0, locals := 60 }) [.ref a0, .ref a1] D t σ (I, J, ri, rj, rq) sz 0 0 (fun (u : pq_S × pq_M) => ∃ ri' : Nat → Nat → Int32, u = (σ, I, J, ri', rj, rq) ∧ GX [] tg σ I ri rj I ri' rj rq ∧ (∀ j, j < 40 → ri' a1 j = ri a0 j) ∧ (∀ q, q ≠ a1 → ri' q = ri q) ∧ (ri' = va_up ri a1 (va_cpy (ri a0) (ri a1) 0 0 40))) := by
  refine Met.ofW (cc := cX11_copy) (maxL := 2) (ret := none) (by decide) rfl ?_
  intro p e s m args below meth c s₁ B hml hv
  obtain ⟨rfl, hsz, hP, hK, hD0, hN⟩ := hv
  have hx := B.exec
  have hb := B.bytes
  have hr := B.returns
  have hts := atoms_spec (ws := (wa yX11_copy cX11_copy 2 none)) B.pre
  have hown : s.vm.findClass RX11 = some m.cls := findClass_of_methodNamed B.named
  have hlocks := B.notSynchronized
  subst hsz
  have hD : va_D (pq_B t σ (I, J, ri, rj, rq) s.heap.size) (pq_P t σ (I, J, ri, rj, rq)) := hD0.self
  generalize hAe : pq_B t σ (I, J, ri, rj, rq) s.heap.size = A at hD ⊢
  have hA : ∀ q : Nat, s.heap.size ≤ q → A q := fun q h => by rw [← hAe]; exact Or.inr h
  have hS : va_S A s.heap s.heap [] := va_S.rf
  have hG : GX [] tg σ I ri rj I ri rj rq := ⟨hG0, fun _ _ _ => rfl, fun _ _ _ _ _ => rfl, fun _ _ _ _ _ => rfl⟩
  have hl := lv_entry ([.ref a0, .ref a1]) (n := 2) (Nat.le_of_ble_eq_true rfl)
  rw [lg_entry_eq]
  generalize (lg_sl ([.ref a0, .ref a1]) ++ List.replicate (2 - (lg_sl ([.ref a0, .ref a1])).length) Slot.unset).toArray = ls at hl ⊢
  have hl : lv_has ls 2 [(0, .ref a0), (1, .ref a1)] := hl
  refine q_gen (fun Q hQ => ?_)
  have go : ∀ (H : Heap) (locs : List Loc) (ls : Array Slot), va_P D vwCl (pq_P t σ (I, J, ri, rj, rq)) H → va_D A (pq_P t σ (I, J, ri, rj, rq)) → va_S A s.heap H locs → lv_has ls 2 [(0, .ref a0), (1, .ref a1)] → W p l e ({ frames := 1, cells := 0, slots := 0, locals := 60 } : Room) s m (List.toArray ([.ref a0, .ref a1] : List Value)) below meth c H locs 0 0 Q (F0 m 0 ls []) := by
    intro H locs ls hP hD hS hl
    refine lv_aload_n hx hb dX11_copy_0 rfl (lv_at hl 0 rfl) ?_
    refine lv_iconst (v := 0) hx hb dX11_copy_1 (by decide) ?_
    refine lv_aload_n hx hb dX11_copy_2 rfl (lv_at hl 1 rfl) ?_
    refine lv_iconst (v := 0) hx hb dX11_copy_3 (by decide) ?_
    refine lv_aload_n hx hb dX11_copy_4 rfl (lv_at hl 0 rfl) ?_
    refine pn_i (v := 40) hx hb hK hP hL_a0 hK_a0 hN_a0 (by decide) dX11_copy_5 ?_
    refine lv_aload_n hx hb dX11_copy_6 rfl (lv_at hl 1 rfl) ?_
    refine pn_i (v := 40) hx hb hK hP hL_a1 hK_a1 hN_a1 (by decide) dX11_copy_7 ?_
    refine va_mmin hx hb (hml.trans hl.1.symm) hown (hts _ (tw_c tw_1103)) (hts _ (tw_c tw_467)) (hts _ (tw_c tw_276)) (hts _ (tw_c tw_468)) (Nat.le_of_ble_eq_true rfl) (Nat.le_of_ble_eq_true rfl) (Nat.zero_le _) (Nat.zero_le _) dX11_copy_8 ?_
    refine lv_topi (fun x_1 ex_1 => ?_)
    have h_2 : rg x_1 40 40 := rg_of_eq ex_1 (rg_min2 (rg_k (40 : Int32) 40 rfl) (rg_k (40 : Int32) 40 rfl) (by decide))
    refine pc_i hx hb (hml.trans hl.1.symm) hown (hts _ (tw_c tw_1104)) (hts _ (tw_c tw_1105)) (hts _ (tw_c tw_1106)) (hts _ (tw_c tw_1107)) hK hP hD hS hL_a0 hK_a0 hN_a0 hL_a1 hK_a1 hN_a1 (rg_pos (rg_k (0 : Int32) 0 rfl) (by decide)) (rg_pos h_2 (by decide)) (rg_cp (rg_k (0 : Int32) 0 rfl) h_2 (by decide)) (rg_cl h_2 (by decide)) (Nat.le_of_ble_eq_true rfl) (Nat.le_of_ble_eq_true rfl) dX11_copy_11 (fun r_3 H locs er_3 hP hD hS => ?_)
    have hG := GX.cR hG hSH hT_a0 rfl hT_a1 rfl er_3 (by decide)
    subst hQ
    exact W.vret hx hb hr (fun t1 ht hW => ⟨⟨(σ, I, J, r_3, rj, rq), rfl, ⟨r_3, rfl, hG, (cpy_eq er_3 h_2 rfl), (fun q hq => by rw [er_3, va_up_ne _ _ hq]), (by rw [er_3, show (x_1).toNatClampNeg = 40 from by have z_i := clampE x_1; have z_r := h_2; have z_1 := z_r.1; have z_2 := z_r.2; omega]; rfl)⟩, by rw [ht]; exact hP, va_K.moved hW.alike hK, hD⟩, hS.F ht⟩) hS.2.2 dX11_copy_14
  exact go _ _ _ hP hD hS hl

set_option maxRecDepth 100000 in
def g_X9_copyFrom (nR : Nat → Nat → Int32) (I : Nat → Int32) (J : Nat → Int64) (ri : Nat → Nat → Int32) (rj : Nat → Nat → Int64) (rq : Nat → Nat → Option Nat) : vM := (ap1 (va_up ri 288 (va_cpy (nR 288) (ri 288) 0 0 40)) fun (ri_5 : Nat → Nat → Int32) => (ap1 (va_up ri_5 289 (va_cpy (nR 289) (ri_5 289) 0 0 40)) fun (ri_18 : Nat → Nat → Int32) => (ap1 (va_up ri_18 290 (va_cpy (nR 290) (ri_18 290) 0 0 40)) fun (ri_31 : Nat → Nat → Int32) => (I, J, ri_31, rj, rq))))
set_option maxRecDepth 100000 in
theorem g_X9_copyFrom_e {nR : Nat → Nat → Int32} {I : Nat → Int32} {J : Nat → Int64} {ri : Nat → Nat → Int32} {rj : Nat → Nat → Int64} {rq : Nat → Nat → Option Nat} : g_X9_copyFrom nR I J ri rj rq = (ap1 (va_up ri 288 (va_cpy (nR 288) (ri 288) 0 0 40)) fun (ri_5 : Nat → Nat → Int32) => (ap1 (va_up ri_5 289 (va_cpy (nR 289) (ri_5 289) 0 0 40)) fun (ri_18 : Nat → Nat → Int32) => (ap1 (va_up ri_18 290 (va_cpy (nR 290) (ri_18 290) 0 0 40)) fun (ri_31 : Nat → Nat → Int32) => (I, J, ri_31, rj, rq)))) := rfl
set_option maxHeartbeats 4000000 in
set_option maxRecDepth 100000 in
theorem s_X9_copyFrom (l : Launch) (D : va_G) (t : pq_T) (σ : pq_S) (I : Nat → Nat → Int32) (J : Nat → Nat → Int64) (ri : Nat → Nat → Int32) (rj : Nat → Nat → Int64) (rq : Nat → Nat → Option Nat) (sz : Nat) (tg : Nat → Nat) (hSH : SH σ tg) (hG0 : GS tg σ I ri rq) (this : Nat) (a0 : Nat) (hL_this : this ∈ σ.1) (hK_this : σ.2.1 this = 9) (hL_a0 : a0 ∈ σ.1) (hK_a0 : σ.2.1 a0 = 9) (M : Nat) (hL_M : M ∈ σ.1) (hK_M : σ.2.1 M = 10) (N : Nat) (hL_N : N ∈ σ.1) (hK_N : σ.2.1 N = 10) (hO_this : this = vo σ 9 M) (hO_a0 : a0 = vo σ 9 N) (hap : AP 10 tg σ M N) : MetV l yX9_copyFrom (wa yX9_copyFrom cX9_copyFrom 2 none) ({ frames := 2, cells := 0, slots := 0, locals := 81 }) [.ref this, .ref a0] D t σ (I, J, ri, rj, rq) sz 0 0 (fun (u : pq_S × pq_M) => ∃ ri' : Nat → Nat → Int32, u = (σ, I, J, ri', rj, rq) ∧ GX [1288] tg σ I ri rj I ri' rj rq ∧ g_X9_copyFrom (vR 10 σ N ri) (vI 10 σ M I) (vJ 10 σ M J) (vR 10 σ M ri) (vL 10 σ M rj) (vQ 10 σ M rq) = ((vI 10 σ M I), (vJ 10 σ M J), (vR 10 σ M ri'), (vL 10 σ M rj), (vQ 10 σ M rq)) ∧ FR 10 tg σ M (I, J, ri, rj, rq) (I, J, ri', rj, rq)) := by
  refine Met.ofW (cc := cX9_copyFrom) (maxL := 2) (ret := none) (by decide) rfl ?_
  intro p e s m args below meth c s₁ B hml hv
  obtain ⟨rfl, hsz, hP, hK, hD0, hN⟩ := hv
  have hx := B.exec
  have hb := B.bytes
  have hr := B.returns
  have hts := atoms_spec (ws := (wa yX9_copyFrom cX9_copyFrom 2 none)) B.pre
  have hown : s.vm.findClass RX9 = some m.cls := findClass_of_methodNamed B.named
  have hlocks := B.notSynchronized
  subst hsz
  have hD : va_D (pq_B t σ (I, J, ri, rj, rq) s.heap.size) (pq_P t σ (I, J, ri, rj, rq)) := hD0.self
  generalize hAe : pq_B t σ (I, J, ri, rj, rq) s.heap.size = A at hD ⊢
  have hA : ∀ q : Nat, s.heap.size ≤ q → A q := fun q h => by rw [← hAe]; exact Or.inr h
  have hS : va_S A s.heap s.heap [] := va_S.rf
  have hG : GX [1288] tg σ I ri rj I ri rj rq := ⟨hG0, fun _ _ _ => rfl, fun _ _ _ _ _ => rfl, fun _ _ _ _ _ => rfl⟩
  have hl := lv_entry ([.ref this, .ref a0]) (n := 2) (Nat.le_of_ble_eq_true rfl)
  rw [lg_entry_eq]
  generalize (lg_sl ([.ref this, .ref a0]) ++ List.replicate (2 - (lg_sl ([.ref this, .ref a0])).length) Slot.unset).toArray = ls at hl ⊢
  have hl : lv_has ls 2 [(0, .ref this), (1, .ref a0)] := hl
  refine q_gen (fun Q hQ => ?_)
  have go : ∀ (H : Heap) (locs : List Loc) (ls : Array Slot), va_P D vwCl (pq_P t σ (I, J, ri, rj, rq)) H → va_D A (pq_P t σ (I, J, ri, rj, rq)) → va_S A s.heap H locs → lv_has ls 2 [(0, .ref this), (1, .ref a0)] → W p l e ({ frames := 2, cells := 0, slots := 0, locals := 81 } : Room) s m (List.toArray ([.ref this, .ref a0] : List Value)) below meth c H locs 0 0 Q (F0 m 0 ls []) := by
    intro H locs ls hP hD hS hl
    have hVT : VT 10 σ tg M := vt_10 hSH hL_M hK_M
    have hFr : FR 10 tg σ M (I, J, ri, rj, rq) (I, J, ri, rj, rq) := fr_rf
    obtain ⟨F, hF0⟩ : ∃ F, F = g_X9_copyFrom (vR 10 σ N ri) (vI 10 σ M I) (vJ 10 σ M J) (vR 10 σ M ri) (vL 10 σ M rj) (vQ 10 σ M rq) := ⟨_, rfl⟩
    have hF := hF0.trans g_X9_copyFrom_e
    refine lv_aload_n hx hb dX9_copyFrom_0 rfl (lv_at hl 1 rfl) ?_
    obtain ⟨w_1, hR_w_1, hL_w_1, hK_w_1, hN_w_1, hT_w_1⟩ := sh_a hSH 288 (ci := 9) (kd := 13) (len := 40) rfl (by decide) hL_a0 hK_a0
    have hO_w_1 : w_1 = vrow σ 288 N := vo_k (c := 9) hO_a0 hR_w_1
    refine pg_f (v := .ref w_1) (C := RX9) (T := TX9) (N := 3) hx hb hts (tw_i inlX9) hown hK hP hL_a0 hK_a0 (by decide) rfl 0 (by decide) (hts _ (tw_c tw_104)) (pq_hv rfl hR_w_1) dX9_copyFrom_1 ?_
    refine lv_aload_n hx hb dX9_copyFrom_4 rfl (lv_at hl 0 rfl) ?_
    obtain ⟨w_2, hR_w_2, hL_w_2, hK_w_2, hN_w_2, hT_w_2⟩ := sh_a hSH 288 (ci := 9) (kd := 13) (len := 40) rfl (by decide) hL_this hK_this
    have hO_w_2 : w_2 = vrow σ 288 M := vo_k (c := 9) hO_this hR_w_2
    refine pg_f (v := .ref w_2) (C := RX9) (T := TX9) (N := 3) hx hb hts (tw_i inlX9) hown hK hP hL_this hK_this (by decide) rfl 0 (by decide) (hts _ (tw_c tw_104)) (pq_hv rfl hR_w_2) dX9_copyFrom_5 ?_
    refine pk_v (va_runSN (As := [.ref w_1, .ref w_2]) (rest := []) ⟨hx, hb, hml, hown, hts⟩ (s_X11_copy_288_288 l D t σ I J ri rj rq H.size tg hSH hG.1 w_1 w_2 hL_w_1 hK_w_1 hN_w_1 hT_w_1 hL_w_2 hK_w_2 hN_w_2 hT_w_2) ⟨va_cnB (host := "RingsUnder") 2 hts (tw_W tw_1102) rfl rfl rfl (nl_20 hN) (hts _ (tw_c tw_2)) cd_yX11_copy_2 ⟨Nat.le_of_ble_eq_true rfl, Nat.le_of_ble_eq_true rfl⟩, hts (.static yX11_copy) (tw_c tq_static_yX11_copy), trivial⟩ ⟨pq_blind, pq_pre hK hN hP hD⟩ rfl rfl hl.1 rfl (lv_room (Nat.le_of_ble_eq_true rfl)) dX9_copyFrom_8 ⟨Nat.le_of_ble_eq_true rfl, Nat.le_of_ble_eq_true rfl⟩) hD hS hA (fun σ1 μ1 H locs hw_4 hP hD hS => ?_)
    obtain ⟨ri_5, hu_6, hg_7, hp_9, hp_10, hp_11⟩ := hw_4
    obtain ⟨hu_6a, hu_6b⟩ := Prod.mk.inj hu_6
    rw [hu_6a, hu_6b] at hP hD
    replace hF := hF.trans (ap_n (vR_cp hVT hO_w_2 (by decide) (funext fun _ => (cR_r hFr hap hO_w_1 (by decide) rfl)) hp_11))
    replace hFr := fr_R hFr hO_w_2 (by decide) hp_11
    have hG := GX.tr hG hg_7 (by decide)
    refine lv_aload_n hx hb dX9_copyFrom_11 rfl (lv_at hl 1 rfl) ?_
    obtain ⟨w_14, hR_w_14, hL_w_14, hK_w_14, hN_w_14, hT_w_14⟩ := sh_a hSH 289 (ci := 9) (kd := 13) (len := 40) rfl (by decide) hL_a0 hK_a0
    have hO_w_14 : w_14 = vrow σ 289 N := vo_k (c := 9) hO_a0 hR_w_14
    refine pg_f (v := .ref w_14) (C := RX9) (T := TX9) (N := 3) hx hb hts (tw_i inlX9) hown hK hP hL_a0 hK_a0 (by decide) rfl 1 (by decide) (hts _ (tw_c tw_105)) (pq_hv rfl hR_w_14) dX9_copyFrom_12 ?_
    refine lv_aload_n hx hb dX9_copyFrom_15 rfl (lv_at hl 0 rfl) ?_
    obtain ⟨w_15, hR_w_15, hL_w_15, hK_w_15, hN_w_15, hT_w_15⟩ := sh_a hSH 289 (ci := 9) (kd := 13) (len := 40) rfl (by decide) hL_this hK_this
    have hO_w_15 : w_15 = vrow σ 289 M := vo_k (c := 9) hO_this hR_w_15
    refine pg_f (v := .ref w_15) (C := RX9) (T := TX9) (N := 3) hx hb hts (tw_i inlX9) hown hK hP hL_this hK_this (by decide) rfl 1 (by decide) (hts _ (tw_c tw_105)) (pq_hv rfl hR_w_15) dX9_copyFrom_16 ?_
    refine pk_v (va_runSN (As := [.ref w_14, .ref w_15]) (rest := []) ⟨hx, hb, hml, hown, hts⟩ (s_X11_copy_289_289 l D t σ I J ri_5 rj rq H.size tg hSH hG.1 w_14 w_15 hL_w_14 hK_w_14 hN_w_14 hT_w_14 hL_w_15 hK_w_15 hN_w_15 hT_w_15) ⟨va_cnB (host := "RingsUnder") 2 hts (tw_W tw_1102) rfl rfl rfl (nl_20 hN) (hts _ (tw_c tw_2)) cd_yX11_copy_2 ⟨Nat.le_of_ble_eq_true rfl, Nat.le_of_ble_eq_true rfl⟩, hts (.static yX11_copy) (tw_c tq_static_yX11_copy), trivial⟩ ⟨pq_blind, pq_pre hK hN hP hD⟩ rfl rfl hl.1 rfl (lv_room (Nat.le_of_ble_eq_true rfl)) dX9_copyFrom_19 ⟨Nat.le_of_ble_eq_true rfl, Nat.le_of_ble_eq_true rfl⟩) hD hS hA (fun σ1 μ1 H locs hw_17 hP hD hS => ?_)
    obtain ⟨ri_18, hu_19, hg_20, hp_22, hp_23, hp_24⟩ := hw_17
    obtain ⟨hu_19a, hu_19b⟩ := Prod.mk.inj hu_19
    rw [hu_19a, hu_19b] at hP hD
    replace hF := hF.trans (ap_n (vR_cp hVT hO_w_15 (by decide) (funext fun _ => (cR_r hFr hap hO_w_14 (by decide) rfl)) hp_24))
    replace hFr := fr_R hFr hO_w_15 (by decide) hp_24
    have hG := GX.tr hG hg_20 (by decide)
    refine lv_aload_n hx hb dX9_copyFrom_22 rfl (lv_at hl 1 rfl) ?_
    obtain ⟨w_27, hR_w_27, hL_w_27, hK_w_27, hN_w_27, hT_w_27⟩ := sh_a hSH 290 (ci := 9) (kd := 13) (len := 40) rfl (by decide) hL_a0 hK_a0
    have hO_w_27 : w_27 = vrow σ 290 N := vo_k (c := 9) hO_a0 hR_w_27
    refine pg_f (v := .ref w_27) (C := RX9) (T := TX9) (N := 3) hx hb hts (tw_i inlX9) hown hK hP hL_a0 hK_a0 (by decide) rfl 2 (by decide) (hts _ (tw_c tw_106)) (pq_hv rfl hR_w_27) dX9_copyFrom_23 ?_
    refine lv_aload_n hx hb dX9_copyFrom_26 rfl (lv_at hl 0 rfl) ?_
    obtain ⟨w_28, hR_w_28, hL_w_28, hK_w_28, hN_w_28, hT_w_28⟩ := sh_a hSH 290 (ci := 9) (kd := 13) (len := 40) rfl (by decide) hL_this hK_this
    have hO_w_28 : w_28 = vrow σ 290 M := vo_k (c := 9) hO_this hR_w_28
    refine pg_f (v := .ref w_28) (C := RX9) (T := TX9) (N := 3) hx hb hts (tw_i inlX9) hown hK hP hL_this hK_this (by decide) rfl 2 (by decide) (hts _ (tw_c tw_106)) (pq_hv rfl hR_w_28) dX9_copyFrom_27 ?_
    refine pk_v (va_runSN (As := [.ref w_27, .ref w_28]) (rest := []) ⟨hx, hb, hml, hown, hts⟩ (s_X11_copy_290_290 l D t σ I J ri_18 rj rq H.size tg hSH hG.1 w_27 w_28 hL_w_27 hK_w_27 hN_w_27 hT_w_27 hL_w_28 hK_w_28 hN_w_28 hT_w_28) ⟨va_cnB (host := "RingsUnder") 2 hts (tw_W tw_1102) rfl rfl rfl (nl_20 hN) (hts _ (tw_c tw_2)) cd_yX11_copy_2 ⟨Nat.le_of_ble_eq_true rfl, Nat.le_of_ble_eq_true rfl⟩, hts (.static yX11_copy) (tw_c tq_static_yX11_copy), trivial⟩ ⟨pq_blind, pq_pre hK hN hP hD⟩ rfl rfl hl.1 rfl (lv_room (Nat.le_of_ble_eq_true rfl)) dX9_copyFrom_30 ⟨Nat.le_of_ble_eq_true rfl, Nat.le_of_ble_eq_true rfl⟩) hD hS hA (fun σ1 μ1 H locs hw_30 hP hD hS => ?_)
    obtain ⟨ri_31, hu_32, hg_33, hp_35, hp_36, hp_37⟩ := hw_30
    obtain ⟨hu_32a, hu_32b⟩ := Prod.mk.inj hu_32
    rw [hu_32a, hu_32b] at hP hD
    replace hF := hF.trans (ap_n (vR_cp hVT hO_w_28 (by decide) (funext fun _ => (cR_r hFr hap hO_w_27 (by decide) rfl)) hp_37))
    replace hFr := fr_R hFr hO_w_28 (by decide) hp_37
    have hG := GX.tr hG hg_33 (by decide)
    subst hQ
    exact W.vret hx hb hr (fun t1 ht hW => ⟨⟨(σ, I, J, ri_31, rj, rq), rfl, ⟨ri_31, rfl, hG, (hF0.symm.trans hF), hFr⟩, by rw [ht]; exact hP, va_K.moved hW.alike hK, hD⟩, hS.F ht⟩) hS.2.2 dX9_copyFrom_33
  exact go _ _ _ hP hD hS hl

set_option maxHeartbeats 4000000 in
set_option maxRecDepth 100000 in
theorem s_X11_copy_79_79 (l : Launch) (D : va_G) (t : pq_T) (σ : pq_S) (I : Nat → Nat → Int32) (J : Nat → Nat → Int64) (ri : Nat → Nat → Int32) (rj : Nat → Nat → Int64) (rq : Nat → Nat → Option Nat) (sz : Nat) (tg : Nat → Nat) (hSH : SH σ tg) (hG0 : GS tg σ I ri rq) (a0 : Nat) (a1 : Nat) (hL_a0 : a0 ∈ σ.1) (hK_a0 : σ.2.1 a0 = 13) (hN_a0 : σ.2.2.2 a0 = 40) (hT_a0 : tg a0 = 79) (hL_a1 : a1 ∈ σ.1) (hK_a1 : σ.2.1 a1 = 13) (hN_a1 : σ.2.2.2 a1 = 40) (hT_a1 : tg a1 = 79) : MetV l yX11_copy (wa yX11_copy cX11_copy 2 none) ({ frames := 1, cells := 0, slots := 0, locals := 60 }) [.ref a0, .ref a1] D t σ (I, J, ri, rj, rq) sz 0 0 (fun (u : pq_S × pq_M) => ∃ ri' : Nat → Nat → Int32, u = (σ, I, J, ri', rj, rq) ∧ GX [1079] tg σ I ri rj I ri' rj rq ∧ (∀ j, j < 40 → ri' a1 j = ri a0 j) ∧ (∀ q, q ≠ a1 → ri' q = ri q) ∧ (ri' = va_up ri a1 (va_cpy (ri a0) (ri a1) 0 0 40))) := by
  refine Met.ofW (cc := cX11_copy) (maxL := 2) (ret := none) (by decide) rfl ?_
  intro p e s m args below meth c s₁ B hml hv
  obtain ⟨rfl, hsz, hP, hK, hD0, hN⟩ := hv
  have hx := B.exec
  have hb := B.bytes
  have hr := B.returns
  have hts := atoms_spec (ws := (wa yX11_copy cX11_copy 2 none)) B.pre
  have hown : s.vm.findClass RX11 = some m.cls := findClass_of_methodNamed B.named
  have hlocks := B.notSynchronized
  subst hsz
  have hD : va_D (pq_B t σ (I, J, ri, rj, rq) s.heap.size) (pq_P t σ (I, J, ri, rj, rq)) := hD0.self
  generalize hAe : pq_B t σ (I, J, ri, rj, rq) s.heap.size = A at hD ⊢
  have hA : ∀ q : Nat, s.heap.size ≤ q → A q := fun q h => by rw [← hAe]; exact Or.inr h
  have hS : va_S A s.heap s.heap [] := va_S.rf
  have hG : GX [1079] tg σ I ri rj I ri rj rq := ⟨hG0, fun _ _ _ => rfl, fun _ _ _ _ _ => rfl, fun _ _ _ _ _ => rfl⟩
  have hl := lv_entry ([.ref a0, .ref a1]) (n := 2) (Nat.le_of_ble_eq_true rfl)
  rw [lg_entry_eq]
  generalize (lg_sl ([.ref a0, .ref a1]) ++ List.replicate (2 - (lg_sl ([.ref a0, .ref a1])).length) Slot.unset).toArray = ls at hl ⊢
  have hl : lv_has ls 2 [(0, .ref a0), (1, .ref a1)] := hl
  refine q_gen (fun Q hQ => ?_)
  have go : ∀ (H : Heap) (locs : List Loc) (ls : Array Slot), va_P D vwCl (pq_P t σ (I, J, ri, rj, rq)) H → va_D A (pq_P t σ (I, J, ri, rj, rq)) → va_S A s.heap H locs → lv_has ls 2 [(0, .ref a0), (1, .ref a1)] → W p l e ({ frames := 1, cells := 0, slots := 0, locals := 60 } : Room) s m (List.toArray ([.ref a0, .ref a1] : List Value)) below meth c H locs 0 0 Q (F0 m 0 ls []) := by
    intro H locs ls hP hD hS hl
    refine lv_aload_n hx hb dX11_copy_0 rfl (lv_at hl 0 rfl) ?_
    refine lv_iconst (v := 0) hx hb dX11_copy_1 (by decide) ?_
    refine lv_aload_n hx hb dX11_copy_2 rfl (lv_at hl 1 rfl) ?_
    refine lv_iconst (v := 0) hx hb dX11_copy_3 (by decide) ?_
    refine lv_aload_n hx hb dX11_copy_4 rfl (lv_at hl 0 rfl) ?_
    refine pn_i (v := 40) hx hb hK hP hL_a0 hK_a0 hN_a0 (by decide) dX11_copy_5 ?_
    refine lv_aload_n hx hb dX11_copy_6 rfl (lv_at hl 1 rfl) ?_
    refine pn_i (v := 40) hx hb hK hP hL_a1 hK_a1 hN_a1 (by decide) dX11_copy_7 ?_
    refine va_mmin hx hb (hml.trans hl.1.symm) hown (hts _ (tw_c tw_1103)) (hts _ (tw_c tw_467)) (hts _ (tw_c tw_276)) (hts _ (tw_c tw_468)) (Nat.le_of_ble_eq_true rfl) (Nat.le_of_ble_eq_true rfl) (Nat.zero_le _) (Nat.zero_le _) dX11_copy_8 ?_
    refine lv_topi (fun x_1 ex_1 => ?_)
    have h_2 : rg x_1 40 40 := rg_of_eq ex_1 (rg_min2 (rg_k (40 : Int32) 40 rfl) (rg_k (40 : Int32) 40 rfl) (by decide))
    refine pc_i hx hb (hml.trans hl.1.symm) hown (hts _ (tw_c tw_1104)) (hts _ (tw_c tw_1105)) (hts _ (tw_c tw_1106)) (hts _ (tw_c tw_1107)) hK hP hD hS hL_a0 hK_a0 hN_a0 hL_a1 hK_a1 hN_a1 (rg_pos (rg_k (0 : Int32) 0 rfl) (by decide)) (rg_pos h_2 (by decide)) (rg_cp (rg_k (0 : Int32) 0 rfl) h_2 (by decide)) (rg_cl h_2 (by decide)) (Nat.le_of_ble_eq_true rfl) (Nat.le_of_ble_eq_true rfl) dX11_copy_11 (fun r_3 H locs er_3 hP hD hS => ?_)
    have hG := GX.cR hG hSH hT_a0 rfl hT_a1 rfl er_3 (by decide)
    subst hQ
    exact W.vret hx hb hr (fun t1 ht hW => ⟨⟨(σ, I, J, r_3, rj, rq), rfl, ⟨r_3, rfl, hG, (cpy_eq er_3 h_2 rfl), (fun q hq => by rw [er_3, va_up_ne _ _ hq]), (by rw [er_3, show (x_1).toNatClampNeg = 40 from by have z_i := clampE x_1; have z_r := h_2; have z_1 := z_r.1; have z_2 := z_r.2; omega]; rfl)⟩, by rw [ht]; exact hP, va_K.moved hW.alike hK, hD⟩, hS.F ht⟩) hS.2.2 dX11_copy_14
  exact go _ _ _ hP hD hS hl
