

def w_X6_takeNumber_x : wS := ([194, 196, 197], [], [], [], [])
theorem g_X6_takeNumber_x_L11_f {J : Nat → Int64} {ri : Nat → Nat → Int32} {rj : Nat → Nat → Int64} {rq : Nat → Nat → Option Nat}  : ∀ (n_201 : Nat) (I_153 : Nat → Int32), FRG id w_X6_takeNumber_x (I_153, J, ri, rj, rq) (g_X6_takeNumber_x_L11 J ri rj rq n_201 I_153) := by
  intro n_201
  induction n_201 with
  | zero => intros; exact fv_rt rfl
  | succ n_201 ih =>
    intro I_153
    rw [g_X6_takeNumber_x_L11_e]
    refine fg_ap (fun y_207 => ?_)
    refine fg_ap (fun y_209 => ?_)
    refine fg_if ?_ ?_
    · exact fv_rt rfl
    · refine fg_ap (fun x_219 => ?_)
      refine fg_ap (fun x_221 => ?_)
      refine fg_if ?_ ?_
      · exact fv_rt rfl
      · refine fg_ap (fun y_244 => ?_)
        refine fg_ap (fun x_245 => ?_)
        refine fg_ap (fun x_246 => ?_)
        refine fg_ap (fun x_247 => ?_)
        refine fg_ap (fun x_248 => ?_)
        refine fg_I rfl (fun I_250 => ?_)
        refine fg_ap (fun y_255 => ?_)
        refine fg_ap (fun x_256 => ?_)
        refine fg_I rfl (fun I_258 => ?_)
        exact ih _
theorem g_X6_takeNumber_x_f {I : Nat → Int32} {J : Nat → Int64} {ri : Nat → Nat → Int32} {rj : Nat → Nat → Int64} {rq : Nat → Nat → Option Nat}  : FRG id w_X6_takeNumber_x (I, J, ri, rj, rq) (g_X6_takeNumber_x  I J ri rj rq) := by
  rw [g_X6_takeNumber_x_e]
  refine fg_I rfl (fun I_1 => ?_)
  refine fg_I rfl (fun I_5 => ?_)
  refine fg_ap (fun y_262 => ?_)
  exact g_X6_takeNumber_x_L11_f  _ _

def w_X6_takeLonger_x : wS := ([194, 197], [], [], [], [])
theorem g_X6_takeLonger_x_f {I : Nat → Int32} {J : Nat → Int64} {ri : Nat → Nat → Int32} {rj : Nat → Nat → Int64} {rq : Nat → Nat → Option Nat}  : FRG id w_X6_takeLonger_x (I, J, ri, rj, rq) (g_X6_takeLonger_x  I J ri rj rq) := by
  rw [g_X6_takeLonger_x_e]
  refine fg_ap (fun y_2 => ?_)
  refine fg_ap (fun y_4 => ?_)
  refine fg_if ?_ ?_
  · exact fv_rt rfl
  · refine fg_ap (fun x_16 => ?_)
    refine fg_if ?_ ?_
    · refine fg_ap (fun y_26 => ?_)
      refine fg_if ?_ ?_
      · refine fg_I rfl (fun I_38 => ?_)
        refine fg_ap (fun y_43 => ?_)
        refine fg_ap (fun x_44 => ?_)
        refine fg_I rfl (fun I_46 => ?_)
        exact fv_rt rfl
      · refine fg_if ?_ ?_
        · refine fg_I rfl (fun I_62 => ?_)
          refine fg_ap (fun y_67 => ?_)
          refine fg_ap (fun x_68 => ?_)
          refine fg_I rfl (fun I_70 => ?_)
          exact fv_rt rfl
        · exact fv_rt rfl
    · exact fv_rt rfl

def w_X6_takeWord : wS := ([194, 197], [], [], [], [])
theorem g_X6_takeWord_L57_f {J : Nat → Int64} {ri : Nat → Nat → Int32} {rj : Nat → Nat → Int64} {rq : Nat → Nat → Option Nat}  : ∀ (n_17884 : Nat) (x_17792 : Int32) (x_17793 : Int32) (x_17794 : Int32) (x_17795 : Int32) (I_17796 : Nat → Int32), FRG id w_X6_takeWord (I_17796, J, ri, rj, rq) (g_X6_takeWord_L57 J ri rj rq n_17884 x_17792 x_17793 x_17794 x_17795 I_17796) := by
  intro n_17884
  induction n_17884 with
  | zero => intros; exact fv_rt rfl
  | succ n_17884 ih =>
    intro x_17792 x_17793 x_17794 x_17795 I_17796
    rw [g_X6_takeWord_L57_e]
    refine fg_if ?_ ?_
    · exact fv_rt rfl
    · refine fg_ap (fun y_17908 => ?_)
      refine fg_if ?_ ?_
      · refine fg_ap (fun x_17916 => ?_)
        refine fg_if ?_ ?_
        · refine fg_if ?_ ?_
          · refine fg_ap (fun x_17931 => ?_)
            refine fg_ap (fun y_17933 => ?_)
            refine fg_ap (fun x_17934 => ?_)
            exact ih _ _ _ _ _
          · refine fg_ap (fun y_17939 => ?_)
            refine fg_if ?_ ?_
            · refine fg_I rfl (fun I_17952 => ?_)
              refine fg_ap (fun x_17956 => ?_)
              exact ih _ _ _ _ _
            · refine fg_ap (fun x_17945 => ?_)
              refine fg_ap (fun y_17947 => ?_)
              refine fg_ap (fun x_17948 => ?_)
              exact ih _ _ _ _ _
        · refine fg_if ?_ ?_
          · refine fg_ap (fun x_17967 => ?_)
            refine fg_ap (fun x_17969 => ?_)
            exact ih _ _ _ _ _
          · refine fg_ap (fun y_17974 => ?_)
            refine fg_if ?_ ?_
            · refine fg_ap (fun x_17982 => ?_)
              refine fg_ap (fun x_17984 => ?_)
              exact ih _ _ _ _ _
            · refine fg_ap (fun x_17989 => ?_)
              refine fg_ap (fun x_17990 => ?_)
              refine fg_if ?_ ?_
              · refine fg_ap (fun x_18001 => ?_)
                refine fg_ap (fun x_18003 => ?_)
                exact ih _ _ _ _ _
              · refine fg_ap (fun x_17996 => ?_)
                refine fg_ap (fun x_17998 => ?_)
                exact ih _ _ _ _ _
      · exact fv_rt rfl
theorem g_X6_takeWord_K39_f {I : Nat → Int32} {J : Nat → Int64} {ri : Nat → Nat → Int32} {rj : Nat → Nat → Int64} {rq : Nat → Nat → Option Nat}  : FRG id w_X6_takeWord (I, J, ri, rj, rq) (g_X6_takeWord_K39 I J ri rj rq ) := by
  rw [g_X6_takeWord_K39_e]
  refine fg_I rfl (fun I_15435 => ?_)
  refine fg_ap (fun y_15440 => ?_)
  exact g_X6_takeWord_L57_f  _ _ _ _ _ _
theorem g_X6_takeWord_L57_2_f {J : Nat → Int64} {ri : Nat → Nat → Int32} {rj : Nat → Nat → Int64} {rq : Nat → Nat → Option Nat}  : ∀ (n_33361 : Nat) (x_33269 : Int32) (x_33270 : Int32) (x_33271 : Int32) (x_33272 : Int32) (I_33273 : Nat → Int32), FRG id w_X6_takeWord (I_33273, J, ri, rj, rq) (g_X6_takeWord_L57_2 J ri rj rq n_33361 x_33269 x_33270 x_33271 x_33272 I_33273) := by
  intro n_33361
  induction n_33361 with
  | zero => intros; exact fv_rt rfl
  | succ n_33361 ih =>
    intro x_33269 x_33270 x_33271 x_33272 I_33273
    rw [g_X6_takeWord_L57_2_e]
    refine fg_if ?_ ?_
    · exact fv_rt rfl
    · refine fg_ap (fun y_33385 => ?_)
      refine fg_if ?_ ?_
      · refine fg_ap (fun x_33393 => ?_)
        refine fg_if ?_ ?_
        · refine fg_if ?_ ?_
          · refine fg_ap (fun x_33408 => ?_)
            refine fg_ap (fun y_33410 => ?_)
            refine fg_ap (fun x_33411 => ?_)
            exact ih _ _ _ _ _
          · refine fg_ap (fun y_33416 => ?_)
            refine fg_if ?_ ?_
            · refine fg_I rfl (fun I_33429 => ?_)
              refine fg_ap (fun x_33433 => ?_)
              exact ih _ _ _ _ _
            · refine fg_ap (fun x_33422 => ?_)
              refine fg_ap (fun y_33424 => ?_)
              refine fg_ap (fun x_33425 => ?_)
              exact ih _ _ _ _ _
        · refine fg_if ?_ ?_
          · refine fg_ap (fun x_33444 => ?_)
            refine fg_ap (fun x_33446 => ?_)
            exact ih _ _ _ _ _
          · refine fg_ap (fun y_33451 => ?_)
            refine fg_if ?_ ?_
            · refine fg_ap (fun x_33459 => ?_)
              refine fg_ap (fun x_33461 => ?_)
              exact ih _ _ _ _ _
            · refine fg_ap (fun x_33466 => ?_)
              refine fg_ap (fun x_33467 => ?_)
              refine fg_if ?_ ?_
              · refine fg_ap (fun x_33478 => ?_)
                refine fg_ap (fun x_33480 => ?_)
                exact ih _ _ _ _ _
              · refine fg_ap (fun x_33473 => ?_)
                refine fg_ap (fun x_33475 => ?_)
                exact ih _ _ _ _ _
      · exact fv_rt rfl
theorem g_X6_takeWord_K39_2_f {J : Nat → Int64} {ri : Nat → Nat → Int32} {rj : Nat → Nat → Int64} {rq : Nat → Nat → Option Nat} {I_25761 : Nat → Int32}  : FRG id w_X6_takeWord (I_25761, J, ri, rj, rq) (g_X6_takeWord_K39_2 J ri rj rq I_25761 ) := by
  rw [g_X6_takeWord_K39_2_e]
  refine fg_I rfl (fun I_30912 => ?_)
  refine fg_ap (fun y_30917 => ?_)
  exact g_X6_takeWord_L57_2_f  _ _ _ _ _ _
theorem g_X6_takeWord_L0_f {J : Nat → Int64} {ri : Nat → Nat → Int32} {rj : Nat → Nat → Int64} {rq : Nat → Nat → Option Nat}  : ∀ (n_28334 : Nat) (I_25761 : Nat → Int32), FRG id w_X6_takeWord (I_25761, J, ri, rj, rq) (g_X6_takeWord_L0 J ri rj rq n_28334 I_25761) := by
  intro n_28334
  induction n_28334 with
  | zero => intros; exact fv_rt rfl
  | succ n_28334 ih =>
    intro I_25761
    rw [g_X6_takeWord_L0_e]
    refine fg_ap (fun y_28340 => ?_)
    refine fg_ap (fun y_28342 => ?_)
    refine fg_if ?_ ?_
    · exact g_X6_takeWord_K39_2_f 
    · refine fg_ap (fun x_33491 => ?_)
      refine fg_ap (fun x_33493 => ?_)
      refine fg_if ?_ ?_
      · exact g_X6_takeWord_K39_2_f 
      · refine fg_ap (fun x_33516 => ?_)
        refine fg_I rfl (fun I_33518 => ?_)
        exact ih _
theorem g_X6_takeWord_f {I : Nat → Int32} {J : Nat → Int64} {ri : Nat → Nat → Int32} {rj : Nat → Nat → Int64} {rq : Nat → Nat → Option Nat}  : FRG id w_X6_takeWord (I, J, ri, rj, rq) (g_X6_takeWord  I J ri rj rq) := by
  rw [g_X6_takeWord_e]
  refine fg_ap (fun y_2 => ?_)
  refine fg_ap (fun y_4 => ?_)
  refine fg_if ?_ ?_
  · exact g_X6_takeWord_K39_f 
  · refine fg_ap (fun x_18014 => ?_)
    refine fg_ap (fun x_18016 => ?_)
    refine fg_if ?_ ?_
    · exact g_X6_takeWord_K39_f 
    · refine fg_ap (fun x_18039 => ?_)
      refine fg_I rfl (fun I_18041 => ?_)
      refine fg_ap (fun y_33522 => ?_)
      exact g_X6_takeWord_L0_f  _ _

def w_X6_advance : wS := ([194, 195, 196, 197], [], [], [], [])
theorem g_X6_advance_K52_f {I : Nat → Int32} {J : Nat → Int64} {ri : Nat → Nat → Int32} {rj : Nat → Nat → Int64} {rq : Nat → Nat → Option Nat} {y_2 : Int32}  : FRG id w_X6_advance (I, J, ri, rj, rq) (g_X6_advance_K52 I J ri rj rq y_2 ) := by
  rw [g_X6_advance_K52_e]
  refine fg_I rfl (fun I_1518 => ?_)
  refine fg_ap (fun y_1523 => ?_)
  refine fg_ap (fun y_1525 => ?_)
  refine fg_if ?_ ?_
  · refine fg_ap (fun x_1535 => ?_)
    refine fg_ap (fun x_1536 => ?_)
    refine fg_if ?_ ?_
    · refine fg_ap (fun x_1555 => ?_)
      refine fg_if ?_ ?_
      · refine fg_ap (fun x_1574 => ?_)
        refine fg_I rfl (fun I_1581 => ?_)
        refine fg_ap (fun y_1586 => ?_)
        refine fg_ap (fun x_1587 => ?_)
        refine fg_I rfl (fun I_1589 => ?_)
        refine fg_bV g_X6_takeLonger_x_f rfl (fun I_1595 J_z1 ri_z1 rj_z1 rq_z1 h_1 => ?_)
        rw [fe_J h_1, fe_ri h_1, fe_rj h_1, fe_rq h_1]
        exact fv_rt rfl
      · refine fg_bV g_X6_takeWord_f rfl (fun I_1611 J_z2 ri_z2 rj_z2 rq_z2 h_2 => ?_)
        rw [fe_J h_2, fe_ri h_2, fe_rj h_2, fe_rq h_2]
        exact fv_rt rfl
    · refine fg_bV g_X6_takeNumber_x_f rfl (fun I_1627 J_z3 ri_z3 rj_z3 rq_z3 h_3 => ?_)
      rw [fe_J h_3, fe_ri h_3, fe_rj h_3, fe_rq h_3]
      exact fv_rt rfl
  · refine fg_I rfl (fun I_1637 => ?_)
    exact fv_rt rfl
theorem g_X6_advance_K52_2_f {J : Nat → Int64} {ri : Nat → Nat → Int32} {rj : Nat → Nat → Int64} {rq : Nat → Nat → Option Nat} {I_2077 : Nat → Int32} {y_2222 : Int32}  : FRG id w_X6_advance (I_2077, J, ri, rj, rq) (g_X6_advance_K52_2 J ri rj rq I_2077 y_2222 ) := by
  rw [g_X6_advance_K52_2_e]
  refine fg_I rfl (fun I_2358 => ?_)
  refine fg_ap (fun y_2363 => ?_)
  refine fg_ap (fun y_2365 => ?_)
  refine fg_if ?_ ?_
  · refine fg_ap (fun x_2373 => ?_)
    refine fg_ap (fun x_2374 => ?_)
    refine fg_if ?_ ?_
    · refine fg_ap (fun x_2393 => ?_)
      refine fg_if ?_ ?_
      · refine fg_ap (fun x_2412 => ?_)
        refine fg_I rfl (fun I_2419 => ?_)
        refine fg_ap (fun y_2424 => ?_)
        refine fg_ap (fun x_2425 => ?_)
        refine fg_I rfl (fun I_2427 => ?_)
        refine fg_bV g_X6_takeLonger_x_f rfl (fun I_2433 J_z4 ri_z4 rj_z4 rq_z4 h_4 => ?_)
        rw [fe_J h_4, fe_ri h_4, fe_rj h_4, fe_rq h_4]
        exact fv_rt rfl
      · refine fg_bV g_X6_takeWord_f rfl (fun I_2450 J_z5 ri_z5 rj_z5 rq_z5 h_5 => ?_)
        rw [fe_J h_5, fe_ri h_5, fe_rj h_5, fe_rq h_5]
        exact fv_rt rfl
    · refine fg_bV g_X6_takeNumber_x_f rfl (fun I_2467 J_z6 ri_z6 rj_z6 rq_z6 h_6 => ?_)
      rw [fe_J h_6, fe_ri h_6, fe_rj h_6, fe_rq h_6]
      exact fv_rt rfl
  · refine fg_I rfl (fun I_2478 => ?_)
    exact fv_rt rfl
theorem g_X6_advance_L0_f {J : Nat → Int64} {ri : Nat → Nat → Int32} {rj : Nat → Nat → Int64} {rq : Nat → Nat → Option Nat}  : ∀ (n_2216 : Nat) (I_2077 : Nat → Int32), FRG id w_X6_advance (I_2077, J, ri, rj, rq) (g_X6_advance_L0 J ri rj rq n_2216 I_2077) := by
  intro n_2216
  induction n_2216 with
  | zero => intros; exact fv_rt rfl
  | succ n_2216 ih =>
    intro I_2077
    rw [g_X6_advance_L0_e]
    refine fg_ap (fun y_2222 => ?_)
    refine fg_ap (fun y_2224 => ?_)
    refine fg_if ?_ ?_
    · exact g_X6_advance_K52_2_f 
    · refine fg_ap (fun x_2491 => ?_)
      refine fg_if ?_ ?_
      · refine fg_ap (fun x_2498 => ?_)
        refine fg_I rfl (fun I_2500 => ?_)
        exact ih _
      · refine fg_if ?_ ?_
        · refine fg_ap (fun x_2512 => ?_)
          refine fg_I rfl (fun I_2514 => ?_)
          exact ih _
        · exact g_X6_advance_K52_2_f 
theorem g_X6_advance_K52_3_f {J : Nat → Int64} {ri : Nat → Nat → Int32} {rj : Nat → Nat → Int64} {rq : Nat → Nat → Option Nat} {I_2946 : Nat → Int32} {y_3091 : Int32}  : FRG id w_X6_advance (I_2946, J, ri, rj, rq) (g_X6_advance_K52_3 J ri rj rq I_2946 y_3091 ) := by
  rw [g_X6_advance_K52_3_e]
  refine fg_I rfl (fun I_3227 => ?_)
  refine fg_ap (fun y_3232 => ?_)
  refine fg_ap (fun y_3234 => ?_)
  refine fg_if ?_ ?_
  · refine fg_ap (fun x_3242 => ?_)
    refine fg_ap (fun x_3243 => ?_)
    refine fg_if ?_ ?_
    · refine fg_ap (fun x_3262 => ?_)
      refine fg_if ?_ ?_
      · refine fg_ap (fun x_3281 => ?_)
        refine fg_I rfl (fun I_3288 => ?_)
        refine fg_ap (fun y_3293 => ?_)
        refine fg_ap (fun x_3294 => ?_)
        refine fg_I rfl (fun I_3296 => ?_)
        refine fg_bV g_X6_takeLonger_x_f rfl (fun I_3302 J_z7 ri_z7 rj_z7 rq_z7 h_7 => ?_)
        rw [fe_J h_7, fe_ri h_7, fe_rj h_7, fe_rq h_7]
        exact fv_rt rfl
      · refine fg_bV g_X6_takeWord_f rfl (fun I_3319 J_z8 ri_z8 rj_z8 rq_z8 h_8 => ?_)
        rw [fe_J h_8, fe_ri h_8, fe_rj h_8, fe_rq h_8]
        exact fv_rt rfl
    · refine fg_bV g_X6_takeNumber_x_f rfl (fun I_3336 J_z9 ri_z9 rj_z9 rq_z9 h_9 => ?_)
      rw [fe_J h_9, fe_ri h_9, fe_rj h_9, fe_rq h_9]
      exact fv_rt rfl
  · refine fg_I rfl (fun I_3347 => ?_)
    exact fv_rt rfl
theorem g_X6_advance_L0_2_f {J : Nat → Int64} {ri : Nat → Nat → Int32} {rj : Nat → Nat → Int64} {rq : Nat → Nat → Option Nat}  : ∀ (n_3085 : Nat) (I_2946 : Nat → Int32), FRG id w_X6_advance (I_2946, J, ri, rj, rq) (g_X6_advance_L0_2 J ri rj rq n_3085 I_2946) := by
  intro n_3085
  induction n_3085 with
  | zero => intros; exact fv_rt rfl
  | succ n_3085 ih =>
    intro I_2946
    rw [g_X6_advance_L0_2_e]
    refine fg_ap (fun y_3091 => ?_)
    refine fg_ap (fun y_3093 => ?_)
    refine fg_if ?_ ?_
    · exact g_X6_advance_K52_3_f 
    · refine fg_ap (fun x_3360 => ?_)
      refine fg_if ?_ ?_
      · refine fg_ap (fun x_3367 => ?_)
        refine fg_I rfl (fun I_3369 => ?_)
        exact ih _
      · refine fg_if ?_ ?_
        · refine fg_ap (fun x_3381 => ?_)
          refine fg_I rfl (fun I_3383 => ?_)
          exact ih _
        · exact g_X6_advance_K52_3_f 
theorem g_X6_advance_f {I : Nat → Int32} {J : Nat → Int64} {ri : Nat → Nat → Int32} {rj : Nat → Nat → Int64} {rq : Nat → Nat → Option Nat}  : FRG id w_X6_advance (I, J, ri, rj, rq) (g_X6_advance  I J ri rj rq) := by
  rw [g_X6_advance_e]
  refine fg_ap (fun y_2 => ?_)
  refine fg_ap (fun y_4 => ?_)
  refine fg_if ?_ ?_
  · exact g_X6_advance_K52_f 
  · refine fg_ap (fun x_1651 => ?_)
    refine fg_if ?_ ?_
    · refine fg_ap (fun x_1658 => ?_)
      refine fg_I rfl (fun I_1660 => ?_)
      refine fg_ap (fun y_2518 => ?_)
      exact g_X6_advance_L0_f  _ _
    · refine fg_if ?_ ?_
      · refine fg_ap (fun x_2527 => ?_)
        refine fg_I rfl (fun I_2529 => ?_)
        refine fg_ap (fun y_3387 => ?_)
        exact g_X6_advance_L0_2_f  _ _
      · exact g_X6_advance_K52_f 

def w_X4_refuse : wS := ([129, 130], [], [], [], [])
theorem g_X4_refuse_f {a0 : Int32} {I : Nat → Int32} {J : Nat → Int64} {ri : Nat → Nat → Int32} {rj : Nat → Nat → Int64} {rq : Nat → Nat → Option Nat}  : FRG id w_X4_refuse (I, J, ri, rj, rq) (g_X4_refuse  a0 I J ri rj rq) := by
  rw [g_X4_refuse_e]
  refine fg_ap (fun y_1 => ?_)
  refine fg_if ?_ ?_
  · refine fg_I rfl (fun I_9 => ?_)
    refine fg_ap (fun y_15 => ?_)
    refine fg_I rfl (fun I_16 => ?_)
    exact fv_rt rfl
  · exact fv_rt rfl

def w_X4_emit : wS := ([132], [], [259], [], [])
theorem g_X4_emit_f {a0 : Int32} {I : Nat → Int32} {J : Nat → Int64} {ri : Nat → Nat → Int32} {rj : Nat → Nat → Int64} {rq : Nat → Nat → Option Nat}  : FRG id w_X4_emit (I, J, ri, rj, rq) (g_X4_emit  a0 I J ri rj rq) := by
  rw [g_X4_emit_e]
  refine fg_ap (fun y_2 => ?_)
  refine fg_if ?_ ?_
  · exact fv_rt rfl
  · refine fg_ri rfl (fun r_14 => ?_)
    refine fg_ap (fun x_15 => ?_)
    refine fg_I rfl (fun I_17 => ?_)
    exact fv_rt rfl


def w_X4_await : wS := ([134], [], [133], [], [])
theorem g_X4_await_f {a0 : Int32} {I : Nat → Int32} {J : Nat → Int64} {ri : Nat → Nat → Int32} {rj : Nat → Nat → Int64} {rq : Nat → Nat → Option Nat}  : FRG id w_X4_await (I, J, ri, rj, rq) (g_X4_await  a0 I J ri rj rq) := by
  rw [g_X4_await_e]
  refine fg_ap (fun y_2 => ?_)
  refine fg_if ?_ ?_
  · exact fv_rt rfl
  · refine fg_ri rfl (fun r_13 => ?_)
    refine fg_ap (fun x_14 => ?_)
    refine fg_I rfl (fun I_16 => ?_)
    exact fv_rt rfl

def w_X4_openUp : wS := ([129, 130, 134, 135, 136, 137], [], [133], [], [])
theorem g_X4_openUp_f {a0 : Int32} {I : Nat → Int32} {J : Nat → Int64} {ri : Nat → Nat → Int32} {rj : Nat → Nat → Int64} {rq : Nat → Nat → Option Nat}  : FRG id w_X4_openUp (I, J, ri, rj, rq) (g_X4_openUp  a0 I J ri rj rq) := by
  rw [g_X4_openUp_e]
  refine fg_ap (fun y_1 => ?_)
  refine fg_if ?_ ?_
  · refine fg_ap (fun x_9 => ?_)
    refine fg_I rfl (fun I_11 => ?_)
    refine fg_if ?_ ?_
    · refine fg_ap (fun y_67 => ?_)
      refine fg_ap (fun x_68 => ?_)
      refine fg_I rfl (fun I_69 => ?_)
      refine fg_I rfl (fun I_77 => ?_)
      refine fg_bV g_X4_await_f rfl (fun I_83 J_z1 ri_84 rj_z1 rq_z1 h_1 => ?_)
      rw [fe_J h_1, fe_rj h_1, fe_rq h_1]
      exact fv_rt rfl
    · refine fg_if ?_ ?_
      · refine fg_I rfl (fun I_46 => ?_)
        refine fg_bV g_X4_await_f rfl (fun I_52 J_z2 ri_53 rj_z2 rq_z2 h_2 => ?_)
        rw [fe_J h_2, fe_rj h_2, fe_rq h_2]
        exact fv_rt rfl
      · refine fg_I rfl (fun I_25 => ?_)
        refine fg_bV g_X4_await_f rfl (fun I_31 J_z3 ri_32 rj_z3 rq_z3 h_3 => ?_)
        rw [fe_J h_3, fe_rj h_3, fe_rq h_3]
        exact fv_rt rfl
  · refine fg_bV g_X4_refuse_f rfl (fun I_101 J_z4 ri_z4 rj_z4 rq_z4 h_4 => ?_)
    rw [fe_J h_4, fe_ri h_4, fe_rj h_4, fe_rq h_4]
    refine fg_ap (fun y_111 => ?_)
    refine fg_ap (fun x_112 => ?_)
    refine fg_I rfl (fun I_113 => ?_)
    refine fg_if ?_ ?_
    · refine fg_ap (fun y_169 => ?_)
      refine fg_ap (fun x_170 => ?_)
      refine fg_I rfl (fun I_171 => ?_)
      refine fg_I rfl (fun I_179 => ?_)
      refine fg_bV g_X4_await_f rfl (fun I_185 J_z5 ri_186 rj_z5 rq_z5 h_5 => ?_)
      rw [fe_J h_5, fe_rj h_5, fe_rq h_5]
      exact fv_rt rfl
    · refine fg_if ?_ ?_
      · refine fg_I rfl (fun I_148 => ?_)
        refine fg_bV g_X4_await_f rfl (fun I_154 J_z6 ri_155 rj_z6 rq_z6 h_6 => ?_)
        rw [fe_J h_6, fe_rj h_6, fe_rq h_6]
        exact fv_rt rfl
      · refine fg_I rfl (fun I_127 => ?_)
        refine fg_bV g_X4_await_f rfl (fun I_133 J_z7 ri_134 rj_z7 rq_z7 h_7 => ?_)
        rw [fe_J h_7, fe_rj h_7, fe_rq h_7]
        exact fv_rt rfl

def w_X4_readOne : wS := ([129, 130, 132, 134, 135, 136, 137], [], [133, 259], [], [])
theorem g_X4_readOne_f {I : Nat → Int32} {J : Nat → Int64} {ri : Nat → Nat → Int32} {rj : Nat → Nat → Int64} {rq : Nat → Nat → Option Nat}  : FRG Prod.snd w_X4_readOne (I, J, ri, rj, rq) (g_X4_readOne  I J ri rj rq) := by
  rw [g_X4_readOne_e]
  refine fg_ap (fun y_1 => ?_)
  refine fg_if ?_ ?_
  · refine fg_ap (fun y_172 => ?_)
    refine fg_if ?_ ?_
    · refine fg_bV g_X4_emit_f rfl (fun I_182 J_z1 ri_183 rj_z1 rq_z1 h_1 => ?_)
      rw [fe_J h_1, fe_rj h_1, fe_rq h_1]
      exact fv_rt rfl
    · refine fg_bV g_X4_refuse_f rfl (fun I_201 J_z2 ri_z2 rj_z2 rq_z2 h_2 => ?_)
      rw [fe_J h_2, fe_ri h_2, fe_rj h_2, fe_rq h_2]
      refine fg_ap (fun y_213 => ?_)
      refine fg_bV g_X4_emit_f rfl (fun I_216 J_z3 ri_217 rj_z3 rq_z3 h_3 => ?_)
      rw [fe_J h_3, fe_rj h_3, fe_rq h_3]
      exact fv_rt rfl
  · refine fg_ap (fun x_7 => ?_)
    refine fg_if ?_ ?_
    · refine fg_if ?_ ?_
      · refine fg_bV g_X4_openUp_f rfl (fun I_38 J_z4 ri_39 rj_z4 rq_z4 h_4 => ?_)
        rw [fe_J h_4, fe_rj h_4, fe_rq h_4]
        exact fv_rt rfl
      · refine fg_if ?_ ?_
        · refine fg_bV g_X4_openUp_f rfl (fun I_65 J_z5 ri_66 rj_z5 rq_z5 h_5 => ?_)
          rw [fe_J h_5, fe_rj h_5, fe_rq h_5]
          exact fv_rt rfl
        · refine fg_if ?_ ?_
          · refine fg_ap (fun y_103 => ?_)
            refine fg_if ?_ ?_
            · refine fg_bV g_X4_refuse_f rfl (fun I_113 J_z6 ri_z6 rj_z6 rq_z6 h_6 => ?_)
              rw [fe_J h_6, fe_ri h_6, fe_rj h_6, fe_rq h_6]
              exact fv_rt rfl
            · refine fg_bV g_X4_openUp_f rfl (fun I_133 J_z7 ri_134 rj_z7 rq_z7 h_7 => ?_)
              rw [fe_J h_7, fe_rj h_7, fe_rq h_7]
              exact fv_rt rfl
          · refine fg_bV g_X4_refuse_f rfl (fun I_88 J_z8 ri_z8 rj_z8 rq_z8 h_8 => ?_)
            rw [fe_J h_8, fe_ri h_8, fe_rj h_8, fe_rq h_8]
            exact fv_rt rfl
    · refine fg_ap (fun x_151 => ?_)
      refine fg_bV g_X4_emit_f rfl (fun I_155 J_z9 ri_156 rj_z9 rq_z9 h_9 => ?_)
      rw [fe_J h_9, fe_rj h_9, fe_rq h_9]
      exact fv_rt rfl


def w_X4_settle : wS := ([132, 134, 135], [], [259], [], [])
theorem g_X4_settle_L0_f {a0 : Int32} {J : Nat → Int64} {rj : Nat → Nat → Int64} {rq : Nat → Nat → Option Nat}  : ∀ (n_351 : Nat) (I_279 : Nat → Int32) (ri_280 : Nat → Nat → Int32), FRG id w_X4_settle (I_279, J, ri_280, rj, rq) (g_X4_settle_L0 a0 J rj rq n_351 I_279 ri_280) := by
  intro n_351
  induction n_351 with
  | zero => intros; exact fv_rt rfl
  | succ n_351 ih =>
    intro I_279 ri_280
    rw [g_X4_settle_L0_e]
    refine fg_ap (fun y_359 => ?_)
    refine fg_if ?_ ?_
    · exact fv_rt rfl
    · refine fg_ap (fun x_369 => ?_)
      refine fg_ap (fun x_371 => ?_)
      refine fg_ap (fun x_372 => ?_)
      refine fg_if ?_ ?_
      · exact fv_rt rfl
      · refine fg_ap (fun x_388 => ?_)
        refine fg_I rfl (fun I_390 => ?_)
        refine fg_ap (fun y_395 => ?_)
        refine fg_ap (fun x_396 => ?_)
        refine fg_ap (fun x_397 => ?_)
        refine fg_bV g_X4_emit_f rfl (fun I_400 J_z1 ri_401 rj_z1 rq_z1 h_1 => ?_)
        rw [fe_J h_1, fe_rj h_1, fe_rq h_1]
        refine fg_if ?_ ?_
        · refine fg_ap (fun y_419 => ?_)
          refine fg_ap (fun x_420 => ?_)
          refine fg_I rfl (fun I_421 => ?_)
          exact ih _ _
        · refine fg_if ?_ ?_
          · refine fg_ap (fun y_433 => ?_)
            refine fg_ap (fun x_434 => ?_)
            refine fg_I rfl (fun I_435 => ?_)
            exact ih _ _
          · exact ih _ _
theorem g_X4_settle_L0_2_f {a0 : Int32} {J : Nat → Int64} {rj : Nat → Nat → Int64} {rq : Nat → Nat → Option Nat}  : ∀ (n_728 : Nat) (I_656 : Nat → Int32) (ri_657 : Nat → Nat → Int32), FRG id w_X4_settle (I_656, J, ri_657, rj, rq) (g_X4_settle_L0_2 a0 J rj rq n_728 I_656 ri_657) := by
  intro n_728
  induction n_728 with
  | zero => intros; exact fv_rt rfl
  | succ n_728 ih =>
    intro I_656 ri_657
    rw [g_X4_settle_L0_2_e]
    refine fg_ap (fun y_736 => ?_)
    refine fg_if ?_ ?_
    · exact fv_rt rfl
    · refine fg_ap (fun x_746 => ?_)
      refine fg_ap (fun x_748 => ?_)
      refine fg_ap (fun x_749 => ?_)
      refine fg_if ?_ ?_
      · exact fv_rt rfl
      · refine fg_ap (fun x_765 => ?_)
        refine fg_I rfl (fun I_767 => ?_)
        refine fg_ap (fun y_772 => ?_)
        refine fg_ap (fun x_773 => ?_)
        refine fg_ap (fun x_774 => ?_)
        refine fg_bV g_X4_emit_f rfl (fun I_777 J_z2 ri_778 rj_z2 rq_z2 h_2 => ?_)
        rw [fe_J h_2, fe_rj h_2, fe_rq h_2]
        refine fg_if ?_ ?_
        · refine fg_ap (fun y_796 => ?_)
          refine fg_ap (fun x_797 => ?_)
          refine fg_I rfl (fun I_798 => ?_)
          exact ih _ _
        · refine fg_if ?_ ?_
          · refine fg_ap (fun y_810 => ?_)
            refine fg_ap (fun x_811 => ?_)
            refine fg_I rfl (fun I_812 => ?_)
            exact ih _ _
          · exact ih _ _
theorem g_X4_settle_L0_3_f {a0 : Int32} {J : Nat → Int64} {rj : Nat → Nat → Int64} {rq : Nat → Nat → Option Nat}  : ∀ (n_1107 : Nat) (I_1035 : Nat → Int32) (ri_1036 : Nat → Nat → Int32), FRG id w_X4_settle (I_1035, J, ri_1036, rj, rq) (g_X4_settle_L0_3 a0 J rj rq n_1107 I_1035 ri_1036) := by
  intro n_1107
  induction n_1107 with
  | zero => intros; exact fv_rt rfl
  | succ n_1107 ih =>
    intro I_1035 ri_1036
    rw [g_X4_settle_L0_3_e]
    refine fg_ap (fun y_1115 => ?_)
    refine fg_if ?_ ?_
    · exact fv_rt rfl
    · refine fg_ap (fun x_1125 => ?_)
      refine fg_ap (fun x_1127 => ?_)
      refine fg_ap (fun x_1128 => ?_)
      refine fg_if ?_ ?_
      · exact fv_rt rfl
      · refine fg_ap (fun x_1144 => ?_)
        refine fg_I rfl (fun I_1146 => ?_)
        refine fg_ap (fun y_1151 => ?_)
        refine fg_ap (fun x_1152 => ?_)
        refine fg_ap (fun x_1153 => ?_)
        refine fg_bV g_X4_emit_f rfl (fun I_1156 J_z3 ri_1157 rj_z3 rq_z3 h_3 => ?_)
        rw [fe_J h_3, fe_rj h_3, fe_rq h_3]
        refine fg_if ?_ ?_
        · refine fg_ap (fun y_1175 => ?_)
          refine fg_ap (fun x_1176 => ?_)
          refine fg_I rfl (fun I_1177 => ?_)
          exact ih _ _
        · refine fg_if ?_ ?_
          · refine fg_ap (fun y_1189 => ?_)
            refine fg_ap (fun x_1190 => ?_)
            refine fg_I rfl (fun I_1191 => ?_)
            exact ih _ _
          · exact ih _ _
theorem g_X4_settle_f {a0 : Int32} {I : Nat → Int32} {J : Nat → Int64} {ri : Nat → Nat → Int32} {rj : Nat → Nat → Int64} {rq : Nat → Nat → Option Nat}  : FRG id w_X4_settle (I, J, ri, rj, rq) (g_X4_settle  a0 I J ri rj rq) := by
  rw [g_X4_settle_e]
  refine fg_ap (fun y_2 => ?_)
  refine fg_if ?_ ?_
  · exact fv_rt rfl
  · refine fg_ap (fun x_13 => ?_)
    refine fg_ap (fun x_15 => ?_)
    refine fg_ap (fun x_16 => ?_)
    refine fg_if ?_ ?_
    · exact fv_rt rfl
    · refine fg_ap (fun x_32 => ?_)
      refine fg_I rfl (fun I_34 => ?_)
      refine fg_ap (fun y_39 => ?_)
      refine fg_ap (fun x_40 => ?_)
      refine fg_ap (fun x_41 => ?_)
      refine fg_bV g_X4_emit_f rfl (fun I_44 J_z4 ri_45 rj_z4 rq_z4 h_4 => ?_)
      rw [fe_J h_4, fe_rj h_4, fe_rq h_4]
      refine fg_if ?_ ?_
      · refine fg_ap (fun y_63 => ?_)
        refine fg_ap (fun x_64 => ?_)
        refine fg_I rfl (fun I_65 => ?_)
        refine fg_ap (fun y_439 => ?_)
        exact g_X4_settle_L0_f  _ _ _
      · refine fg_if ?_ ?_
        · refine fg_ap (fun y_819 => ?_)
          refine fg_ap (fun x_820 => ?_)
          refine fg_I rfl (fun I_821 => ?_)
          refine fg_ap (fun y_1195 => ?_)
          exact g_X4_settle_L0_3_f  _ _ _
        · refine fg_ap (fun y_816 => ?_)
          exact g_X4_settle_L0_2_f  _ _ _

def w_X4_readBehindOne : wS := ([129, 130, 132, 134, 135, 136, 137, 138, 139], [], [133, 259], [], [])
theorem g_X4_readBehindOne_f {I : Nat → Int32} {J : Nat → Int64} {ri : Nat → Nat → Int32} {rj : Nat → Nat → Int64} {rq : Nat → Nat → Option Nat}  : FRG Prod.snd w_X4_readBehindOne (I, J, ri, rj, rq) (g_X4_readBehindOne  I J ri rj rq) := by
  rw [g_X4_readBehindOne_e]
  refine fg_ap (fun y_1 => ?_)
  refine fg_I rfl (fun I_2 => ?_)
  refine fg_if ?_ ?_
  · refine fg_ap (fun y_15 => ?_)
    refine fg_if ?_ ?_
    · refine fg_ap (fun y_24 => ?_)
      refine fg_if ?_ ?_
      · refine fg_if ?_ ?_
        · refine fg_bV g_X4_refuse_f rfl (fun I_220 J_z1 ri_z1 rj_z1 rq_z1 h_1 => ?_)
          rw [fe_J h_1, fe_ri h_1, fe_rj h_1, fe_rq h_1]
          refine fg_bV g_X4_settle_f rfl (fun I_234 J_z2 ri_235 rj_z2 rq_z2 h_2 => ?_)
          rw [fe_J h_2, fe_rj h_2, fe_rq h_2]
          refine fg_I rfl (fun I_248 => ?_)
          exact fv_rt rfl
        · refine fg_I rfl (fun I_263 => ?_)
          refine fg_ap (fun x_269 => ?_)
          refine fg_bV g_X4_settle_f rfl (fun I_278 J_z3 ri_279 rj_z3 rq_z3 h_3 => ?_)
          rw [fe_J h_3, fe_rj h_3, fe_rq h_3]
          refine fg_bV g_X4_await_f rfl (fun I_294 J_z4 ri_295 rj_z4 rq_z4 h_4 => ?_)
          rw [fe_J h_4, fe_rj h_4, fe_rq h_4]
          exact fv_rt rfl
      · refine fg_if ?_ ?_
        · refine fg_I rfl (fun I_43 => ?_)
          refine fg_I rfl (fun I_49 => ?_)
          refine fg_ap (fun x_55 => ?_)
          refine fg_bV g_X4_settle_f rfl (fun I_64 J_z5 ri_65 rj_z5 rq_z5 h_5 => ?_)
          rw [fe_J h_5, fe_rj h_5, fe_rq h_5]
          refine fg_bV g_X4_await_f rfl (fun I_80 J_z6 ri_81 rj_z6 rq_z6 h_6 => ?_)
          rw [fe_J h_6, fe_rj h_6, fe_rq h_6]
          exact fv_rt rfl
        · refine fg_if ?_ ?_
          · refine fg_I rfl (fun I_149 => ?_)
            refine fg_I rfl (fun I_155 => ?_)
            refine fg_ap (fun x_161 => ?_)
            refine fg_bV g_X4_settle_f rfl (fun I_170 J_z7 ri_171 rj_z7 rq_z7 h_7 => ?_)
            rw [fe_J h_7, fe_rj h_7, fe_rq h_7]
            refine fg_bV g_X4_await_f rfl (fun I_186 J_z8 ri_187 rj_z8 rq_z8 h_8 => ?_)
            rw [fe_J h_8, fe_rj h_8, fe_rq h_8]
            exact fv_rt rfl
          · refine fg_bV g_X4_refuse_f rfl (fun I_113 J_z9 ri_z9 rj_z9 rq_z9 h_9 => ?_)
            rw [fe_J h_9, fe_ri h_9, fe_rj h_9, fe_rq h_9]
            refine fg_bV g_X4_settle_f rfl (fun I_127 J_z10 ri_128 rj_z10 rq_z10 h_10 => ?_)
            rw [fe_J h_10, fe_rj h_10, fe_rq h_10]
            refine fg_I rfl (fun I_141 => ?_)
            exact fv_rt rfl
    · refine fg_bV g_X4_refuse_f rfl (fun I_318 J_z11 ri_z11 rj_z11 rq_z11 h_11 => ?_)
      rw [fe_J h_11, fe_ri h_11, fe_rj h_11, fe_rq h_11]
      refine fg_bV g_X4_settle_f rfl (fun I_332 J_z12 ri_333 rj_z12 rq_z12 h_12 => ?_)
      rw [fe_J h_12, fe_rj h_12, fe_rq h_12]
      refine fg_ap (fun y_346 => ?_)
      refine fg_ap (fun x_347 => ?_)
      refine fg_I rfl (fun I_348 => ?_)
      refine fg_ap (fun y_354 => ?_)
      refine fg_ap (fun x_355 => ?_)
      refine fg_I rfl (fun I_356 => ?_)
      refine fg_ap (fun y_363 => ?_)
      refine fg_ap (fun x_364 => ?_)
      refine fg_ap (fun x_366 => ?_)
      refine fg_I rfl (fun I_368 => ?_)
      exact fv_rt rfl
  · refine fg_if ?_ ?_
    · refine fg_ap (fun y_383 => ?_)
      refine fg_if ?_ ?_
      · refine fg_ap (fun y_392 => ?_)
        refine fg_if ?_ ?_
        · refine fg_bV g_X4_refuse_f rfl (fun I_506 J_z13 ri_z13 rj_z13 rq_z13 h_13 => ?_)
          rw [fe_J h_13, fe_ri h_13, fe_rj h_13, fe_rq h_13]
          refine fg_bV g_X4_settle_f rfl (fun I_520 J_z14 ri_521 rj_z14 rq_z14 h_14 => ?_)
          rw [fe_J h_14, fe_rj h_14, fe_rq h_14]
          refine fg_I rfl (fun I_534 => ?_)
          exact fv_rt rfl
        · refine fg_if ?_ ?_
          · refine fg_bV g_X4_settle_f rfl (fun I_427 J_z15 ri_428 rj_z15 rq_z15 h_15 => ?_)
            rw [fe_J h_15, fe_rj h_15, fe_rq h_15]
            refine fg_I rfl (fun I_441 => ?_)
            exact fv_rt rfl
          · refine fg_bV g_X4_refuse_f rfl (fun I_450 J_z16 ri_z16 rj_z16 rq_z16 h_16 => ?_)
            rw [fe_J h_16, fe_ri h_16, fe_rj h_16, fe_rq h_16]
            refine fg_bV g_X4_settle_f rfl (fun I_464 J_z17 ri_465 rj_z17 rq_z17 h_17 => ?_)
            rw [fe_J h_17, fe_rj h_17, fe_rq h_17]
            refine fg_I rfl (fun I_478 => ?_)
            exact fv_rt rfl
      · refine fg_if ?_ ?_
        · refine fg_bV g_X4_settle_f rfl (fun I_553 J_z18 ri_554 rj_z18 rq_z18 h_18 => ?_)
          rw [fe_J h_18, fe_rj h_18, fe_rq h_18]
          refine fg_ap (fun y_567 => ?_)
          refine fg_ap (fun x_568 => ?_)
          refine fg_I rfl (fun I_569 => ?_)
          refine fg_ap (fun y_575 => ?_)
          refine fg_ap (fun x_576 => ?_)
          refine fg_I rfl (fun I_577 => ?_)
          refine fg_ap (fun y_584 => ?_)
          refine fg_ap (fun x_585 => ?_)
          refine fg_ap (fun x_587 => ?_)
          refine fg_I rfl (fun I_589 => ?_)
          exact fv_rt rfl
        · refine fg_bV g_X4_refuse_f rfl (fun I_598 J_z19 ri_z19 rj_z19 rq_z19 h_19 => ?_)
          rw [fe_J h_19, fe_ri h_19, fe_rj h_19, fe_rq h_19]
          refine fg_bV g_X4_settle_f rfl (fun I_612 J_z20 ri_613 rj_z20 rq_z20 h_20 => ?_)
          rw [fe_J h_20, fe_rj h_20, fe_rq h_20]
          refine fg_ap (fun y_626 => ?_)
          refine fg_ap (fun x_627 => ?_)
          refine fg_I rfl (fun I_628 => ?_)
          refine fg_ap (fun y_634 => ?_)
          refine fg_ap (fun x_635 => ?_)
          refine fg_I rfl (fun I_636 => ?_)
          refine fg_ap (fun y_643 => ?_)
          refine fg_ap (fun x_644 => ?_)
          refine fg_ap (fun x_646 => ?_)
          refine fg_I rfl (fun I_648 => ?_)
          exact fv_rt rfl
    · refine fg_ap (fun x_656 => ?_)
      refine fg_bV g_X4_settle_f rfl (fun I_665 J_z21 ri_666 rj_z21 rq_z21 h_21 => ?_)
      rw [fe_J h_21, fe_rj h_21, fe_rq h_21]
      refine fg_bV g_X4_await_f rfl (fun I_681 J_z22 ri_682 rj_z22 rq_z22 h_22 => ?_)
      rw [fe_J h_22, fe_rj h_22, fe_rq h_22]
      exact fv_rt rfl

def w_X4_readEither : wS := ([129, 130, 132, 134, 135, 136, 137, 138, 139, 194, 195, 196, 197], [], [133, 259], [], [])
theorem g_X4_readEither_L34_f {J : Nat → Int64} {rj : Nat → Nat → Int64} {rq : Nat → Nat → Option Nat}  : ∀ (n_1571 : Nat) (x_1489 : Int32) (x_1490 : Int32) (I_1491 : Nat → Int32) (ri_1492 : Nat → Nat → Int32), FRG id w_X4_readEither (I_1491, J, ri_1492, rj, rq) (g_X4_readEither_L34 J rj rq n_1571 x_1489 x_1490 I_1491 ri_1492) := by
  intro n_1571
  induction n_1571 with
  | zero => intros; exact fv_rt rfl
  | succ n_1571 ih =>
    intro x_1489 x_1490 I_1491 ri_1492
    rw [g_X4_readEither_L34_e]
    refine fg_if ?_ ?_
    · exact fv_rt rfl
    · refine fg_ap (fun y_1591 => ?_)
      refine fg_if ?_ ?_
      · refine fg_ap (fun y_1600 => ?_)
        refine fg_if ?_ ?_
        · refine fg_bV g_X6_advance_f rfl (fun I_1612 J_z1 ri_z1 rj_z1 rq_z1 h_1 => ?_)
          rw [fe_J h_1, fe_ri h_1, fe_rj h_1, fe_rq h_1]
          refine fg_if ?_ ?_
          · refine fg_bI g_X4_readBehindOne_f rfl (fun x_1632 I_1634 J_z2 ri_1635 rj_z2 rq_z2 h_2 => ?_)
            rw [fe_J h_2, fe_rj h_2, fe_rq h_2]
            refine fg_ap (fun x_1648 => ?_)
            exact ih _ _ _ _
          · refine fg_bI g_X4_readOne_f rfl (fun x_1652 I_1654 J_z3 ri_1655 rj_z3 rq_z3 h_3 => ?_)
            rw [fe_J h_3, fe_rj h_3, fe_rq h_3]
            refine fg_ap (fun x_1668 => ?_)
            exact ih _ _ _ _
        · exact fv_rt rfl
      · exact fv_rt rfl
theorem g_X4_readEither_f {I : Nat → Int32} {J : Nat → Int64} {ri : Nat → Nat → Int32} {rj : Nat → Nat → Int64} {rq : Nat → Nat → Option Nat}  : FRG id w_X4_readEither (I, J, ri, rj, rq) (g_X4_readEither  I J ri rj rq) := by
  rw [g_X4_readEither_e]
  refine fg_I rfl (fun I_1 => ?_)
  refine fg_I rfl (fun I_7 => ?_)
  refine fg_I rfl (fun I_13 => ?_)
  refine fg_I rfl (fun I_19 => ?_)
  refine fg_I rfl (fun I_25 => ?_)
  refine fg_I rfl (fun I_31 => ?_)
  exact g_X4_readEither_L34_f  _ _ _ _ _

def w_X8_firstOf_R : wS := ([], [], [], [], [])
theorem g_X8_firstOf_R_L2_f {a0 : Int32} {I : Nat → Int32} {J : Nat → Int64} {ri : Nat → Nat → Int32} {rj : Nat → Nat → Int64} {rq : Nat → Nat → Option Nat}  : ∀ (n_144 : Nat) (x_127 : Int32), FRG Prod.snd w_X8_firstOf_R (I, J, ri, rj, rq) (g_X8_firstOf_R_L2 a0 I J ri rj rq n_144 x_127) := by
  intro n_144
  induction n_144 with
  | zero => intros; exact fv_rt rfl
  | succ n_144 ih =>
    intro x_127
    rw [g_X8_firstOf_R_L2_e]
    refine fg_ap (fun y_150 => ?_)
    refine fg_if ?_ ?_
    · exact fv_rt rfl
    · refine fg_ap (fun x_161 => ?_)
      refine fg_if ?_ ?_
      · exact fv_rt rfl
      · refine fg_ap (fun x_166 => ?_)
        exact ih _
theorem g_X8_firstOf_R_f {a0 : Int32} {I : Nat → Int32} {J : Nat → Int64} {ri : Nat → Nat → Int32} {rj : Nat → Nat → Int64} {rq : Nat → Nat → Option Nat}  : FRG Prod.snd w_X8_firstOf_R (I, J, ri, rj, rq) (g_X8_firstOf_R  a0 I J ri rj rq) := by
  rw [g_X8_firstOf_R_e]
  exact g_X8_firstOf_R_L2_f  _ _


def w_X4_expectSemicolon : wS := ([129, 130], [], [], [], [])
theorem g_X4_expectSemicolon_f {I : Nat → Int32} {J : Nat → Int64} {ri : Nat → Nat → Int32} {rj : Nat → Nat → Int64} {rq : Nat → Nat → Option Nat}  : FRG id w_X4_expectSemicolon (I, J, ri, rj, rq) (g_X4_expectSemicolon  I J ri rj rq) := by
  rw [g_X4_expectSemicolon_e]
  refine fg_ap (fun y_2 => ?_)
  refine fg_if ?_ ?_
  · exact fv_rt rfl
  · refine fg_bV g_X4_refuse_f rfl (fun I_12 J_z1 ri_z1 rj_z1 rq_z1 h_1 => ?_)
    rw [fe_J h_1, fe_ri h_1, fe_rj h_1, fe_rq h_1]
    exact fv_rt rfl

def w_X4_readNumber : wS := ([129, 130, 132, 194, 195, 196, 197], [], [259], [], [])
theorem g_X4_readNumber_f {a0 : Int32} {I : Nat → Int32} {J : Nat → Int64} {ri : Nat → Nat → Int32} {rj : Nat → Nat → Int64} {rq : Nat → Nat → Option Nat}  : FRG id w_X4_readNumber (I, J, ri, rj, rq) (g_X4_readNumber  a0 I J ri rj rq) := by
  rw [g_X4_readNumber_e]
  refine fg_bV g_X6_advance_f rfl (fun I_3 J_z1 ri_z1 rj_z1 rq_z1 h_1 => ?_)
  rw [fe_J h_1, fe_ri h_1, fe_rj h_1, fe_rq h_1]
  refine fg_ap (fun y_16 => ?_)
  refine fg_if ?_ ?_
  · refine fg_ap (fun y_23 => ?_)
    refine fg_if ?_ ?_
    · refine fg_bV g_X4_emit_f rfl (fun I_32 J_z2 ri_33 rj_z2 rq_z2 h_2 => ?_)
      rw [fe_J h_2, fe_rj h_2, fe_rq h_2]
      refine fg_bV g_X6_advance_f rfl (fun I_49 J_z3 ri_z3 rj_z3 rq_z3 h_3 => ?_)
      rw [fe_J h_3, fe_ri h_3, fe_rj h_3, fe_rq h_3]
      refine fg_bV g_X4_expectSemicolon_f rfl (fun I_64 J_z4 ri_z4 rj_z4 rq_z4 h_4 => ?_)
      rw [fe_J h_4, fe_ri h_4, fe_rj h_4, fe_rq h_4]
      exact fv_rt rfl
    · refine fg_bV g_X4_refuse_f rfl (fun I_81 J_z5 ri_z5 rj_z5 rq_z5 h_5 => ?_)
      rw [fe_J h_5, fe_ri h_5, fe_rj h_5, fe_rq h_5]
      exact fv_rt rfl
  · refine fg_bV g_X4_refuse_f rfl (fun I_96 J_z6 ri_z6 rj_z6 rq_z6 h_6 => ?_)
    rw [fe_J h_6, fe_ri h_6, fe_rj h_6, fe_rq h_6]
    exact fv_rt rfl

def w_X4_readKey : wS := ([129, 130, 132, 194, 195, 196, 197], [], [259], [], [])
theorem g_X4_readKey_f {a0 : Int32} {I : Nat → Int32} {J : Nat → Int64} {ri : Nat → Nat → Int32} {rj : Nat → Nat → Int64} {rq : Nat → Nat → Option Nat}  : FRG id w_X4_readKey (I, J, ri, rj, rq) (g_X4_readKey  a0 I J ri rj rq) := by
  rw [g_X4_readKey_e]
  refine fg_ap (fun y_1 => ?_)
  refine fg_if ?_ ?_
  · refine fg_if ?_ ?_
    · refine fg_bV g_X6_advance_f rfl (fun I_137 J_z1 ri_z1 rj_z1 rq_z1 h_1 => ?_)
      rw [fe_J h_1, fe_ri h_1, fe_rj h_1, fe_rq h_1]
      refine fg_ap (fun y_150 => ?_)
      refine fg_ap (fun x_151 => ?_)
      refine fg_if ?_ ?_
      · refine fg_bV g_X4_refuse_f rfl (fun I_194 J_z2 ri_z2 rj_z2 rq_z2 h_2 => ?_)
        rw [fe_J h_2, fe_ri h_2, fe_rj h_2, fe_rq h_2]
        refine fg_ap (fun y_207 => ?_)
        refine fg_ap (fun x_208 => ?_)
        refine fg_bV g_X4_emit_f rfl (fun I_211 J_z3 ri_212 rj_z3 rq_z3 h_3 => ?_)
        rw [fe_J h_3, fe_rj h_3, fe_rq h_3]
        exact fv_rt rfl
      · refine fg_ap (fun x_170 => ?_)
        refine fg_bV g_X4_emit_f rfl (fun I_174 J_z4 ri_175 rj_z4 rq_z4 h_4 => ?_)
        rw [fe_J h_4, fe_rj h_4, fe_rq h_4]
        exact fv_rt rfl
    · refine fg_bV g_X4_refuse_f rfl (fun I_230 J_z5 ri_z5 rj_z5 rq_z5 h_5 => ?_)
      rw [fe_J h_5, fe_ri h_5, fe_rj h_5, fe_rq h_5]
      refine fg_ap (fun y_244 => ?_)
      refine fg_ap (fun x_245 => ?_)
      refine fg_bV g_X4_emit_f rfl (fun I_249 J_z6 ri_250 rj_z6 rq_z6 h_6 => ?_)
      rw [fe_J h_6, fe_rj h_6, fe_rq h_6]
      exact fv_rt rfl
  · refine fg_ap (fun x_8 => ?_)
    refine fg_if ?_ ?_
    · refine fg_bV g_X4_refuse_f rfl (fun I_93 J_z7 ri_z7 rj_z7 rq_z7 h_7 => ?_)
      rw [fe_J h_7, fe_ri h_7, fe_rj h_7, fe_rq h_7]
      refine fg_ap (fun y_106 => ?_)
      refine fg_bV g_X4_emit_f rfl (fun I_109 J_z8 ri_110 rj_z8 rq_z8 h_8 => ?_)
      rw [fe_J h_8, fe_rj h_8, fe_rq h_8]
      exact fv_rt rfl
    · refine fg_if ?_ ?_
      · refine fg_bV g_X4_emit_f rfl (fun I_37 J_z9 ri_38 rj_z9 rq_z9 h_9 => ?_)
        rw [fe_J h_9, fe_rj h_9, fe_rq h_9]
        exact fv_rt rfl
      · refine fg_bV g_X4_refuse_f rfl (fun I_56 J_z10 ri_z10 rj_z10 rq_z10 h_10 => ?_)
        rw [fe_J h_10, fe_ri h_10, fe_rj h_10, fe_rq h_10]
        refine fg_ap (fun y_70 => ?_)
        refine fg_bV g_X4_emit_f rfl (fun I_73 J_z11 ri_74 rj_z11 rq_z11 h_11 => ?_)
        rw [fe_J h_11, fe_rj h_11, fe_rq h_11]
        exact fv_rt rfl

def w_X4_readKeys : wS := ([129, 130, 132, 194, 195, 196, 197], [], [259], [], [])
theorem g_X4_readKeys_L4_f {J : Nat → Int64} {rj : Nat → Nat → Int64} {rq : Nat → Nat → Option Nat}  : ∀ (n_777 : Nat) (x_650 : Int32) (x_651 : Int32) (I_652 : Nat → Int32) (ri_653 : Nat → Nat → Int32), FRG id w_X4_readKeys (I_652, J, ri_653, rj, rq) (g_X4_readKeys_L4 J rj rq n_777 x_650 x_651 I_652 ri_653) := by
  intro n_777
  induction n_777 with
  | zero => intros; exact fv_rt rfl
  | succ n_777 ih =>
    intro x_650 x_651 I_652 ri_653
    rw [g_X4_readKeys_L4_e]
    refine fg_if ?_ ?_
    · refine fg_bV g_X4_expectSemicolon_f rfl (fun I_797 J_z1 ri_z1 rj_z1 rq_z1 h_1 => ?_)
      rw [fe_J h_1, fe_ri h_1, fe_rj h_1, fe_rq h_1]
      exact fv_rt rfl
    · refine fg_if ?_ ?_
      · refine fg_bV g_X4_expectSemicolon_f rfl (fun I_820 J_z2 ri_z2 rj_z2 rq_z2 h_2 => ?_)
        rw [fe_J h_2, fe_ri h_2, fe_rj h_2, fe_rq h_2]
        exact fv_rt rfl
      · refine fg_ap (fun y_834 => ?_)
        refine fg_if ?_ ?_
        · refine fg_bV g_X6_advance_f rfl (fun I_858 J_z3 ri_z3 rj_z3 rq_z3 h_3 => ?_)
          rw [fe_J h_3, fe_ri h_3, fe_rj h_3, fe_rq h_3]
          refine fg_bV g_X4_readKey_f rfl (fun I_873 J_z4 ri_874 rj_z4 rq_z4 h_4 => ?_)
          rw [fe_J h_4, fe_rj h_4, fe_rq h_4]
          refine fg_ap (fun x_885 => ?_)
          refine fg_ap (fun y_887 => ?_)
          refine fg_if ?_ ?_
          · refine fg_bV g_X6_advance_f rfl (fun I_905 J_z5 ri_z5 rj_z5 rq_z5 h_5 => ?_)
            rw [fe_J h_5, fe_ri h_5, fe_rj h_5, fe_rq h_5]
            refine fg_ap (fun y_918 => ?_)
            refine fg_if ?_ ?_
            · exact ih _ _ _ _
            · exact ih _ _ _ _
          · refine fg_ap (fun y_893 => ?_)
            refine fg_if ?_ ?_
            · exact ih _ _ _ _
            · exact ih _ _ _ _
        · refine fg_bV g_X4_expectSemicolon_f rfl (fun I_842 J_z6 ri_z6 rj_z6 rq_z6 h_6 => ?_)
          rw [fe_J h_6, fe_ri h_6, fe_rj h_6, fe_rq h_6]
          exact fv_rt rfl
theorem g_X4_readKeys_f {I : Nat → Int32} {J : Nat → Int64} {ri : Nat → Nat → Int32} {rj : Nat → Nat → Int64} {rq : Nat → Nat → Option Nat}  : FRG id w_X4_readKeys (I, J, ri, rj, rq) (g_X4_readKeys  I J ri rj rq) := by
  rw [g_X4_readKeys_e]
  exact g_X4_readKeys_L4_f  _ _ _ _ _

def w_X4_readClause : wS := ([129, 130, 132, 134, 135, 136, 137, 138, 139, 194, 195, 196, 197, 256], [], [133, 257, 258, 259], [], [])
theorem g_X4_readClause_f {I : Nat → Int32} {J : Nat → Int64} {ri : Nat → Nat → Int32} {rj : Nat → Nat → Int64} {rq : Nat → Nat → Option Nat}  : FRG id w_X4_readClause (I, J, ri, rj, rq) (g_X4_readClause  I J ri rj rq) := by
  rw [g_X4_readClause_e]
  refine fg_ap (fun y_1 => ?_)
  refine fg_if ?_ ?_
  · refine fg_if ?_ ?_
    · refine fg_ap (fun y_17 => ?_)
      refine fg_if ?_ ?_
      · refine fg_ri rfl (fun r_26 => ?_)
        refine fg_ap (fun x_27 => ?_)
        refine fg_I rfl (fun I_29 => ?_)
        refine fg_bV g_X4_readEither_f rfl (fun I_43 J_z1 ri_44 rj_z1 rq_z1 h_1 => ?_)
        rw [fe_J h_1, fe_rj h_1, fe_rq h_1]
        refine fg_ap (fun y_56 => ?_)
        refine fg_ap (fun y_58 => ?_)
        refine fg_ri rfl (fun r_59 => ?_)
        exact fv_rt rfl
      · refine fg_bV g_X4_refuse_f rfl (fun I_64 J_z2 ri_z2 rj_z2 rq_z2 h_2 => ?_)
        rw [fe_J h_2, fe_ri h_2, fe_rj h_2, fe_rq h_2]
        exact fv_rt rfl
    · refine fg_bI g_X8_firstOf_R_f rfl (fun x_79 I_z3 J_z3 ri_z3 rj_z3 rq_z3 h_3 => ?_)
      rw [fe_I h_3, fe_J h_3, fe_ri h_3, fe_rj h_3, fe_rq h_3]
      refine fg_if ?_ ?_
      · refine fg_ap (fun y_95 => ?_)
        refine fg_if ?_ ?_
        · refine fg_ri rfl (fun r_104 => ?_)
          refine fg_ap (fun x_105 => ?_)
          refine fg_I rfl (fun I_107 => ?_)
          refine fg_if ?_ ?_
          · refine fg_ap (fun x_125 => ?_)
            refine fg_bV g_X4_readNumber_f rfl (fun I_134 J_z4 ri_135 rj_z4 rq_z4 h_4 => ?_)
            rw [fe_J h_4, fe_rj h_4, fe_rq h_4]
            refine fg_ap (fun y_148 => ?_)
            refine fg_ap (fun y_150 => ?_)
            refine fg_ri rfl (fun r_151 => ?_)
            exact fv_rt rfl
          · refine fg_bV g_X4_readKeys_f rfl (fun I_156 J_z5 ri_157 rj_z5 rq_z5 h_5 => ?_)
            rw [fe_J h_5, fe_rj h_5, fe_rq h_5]
            refine fg_ap (fun y_170 => ?_)
            refine fg_ap (fun y_172 => ?_)
            refine fg_ri rfl (fun r_173 => ?_)
            exact fv_rt rfl
        · refine fg_bV g_X4_refuse_f rfl (fun I_179 J_z6 ri_z6 rj_z6 rq_z6 h_6 => ?_)
          rw [fe_J h_6, fe_ri h_6, fe_rj h_6, fe_rq h_6]
          exact fv_rt rfl
      · refine fg_bV g_X4_refuse_f rfl (fun I_196 J_z7 ri_z7 rj_z7 rq_z7 h_7 => ?_)
        rw [fe_J h_7, fe_ri h_7, fe_rj h_7, fe_rq h_7]
        exact fv_rt rfl
  · refine fg_bV g_X4_refuse_f rfl (fun I_213 J_z8 ri_z8 rj_z8 rq_z8 h_8 => ?_)
    rw [fe_J h_8, fe_ri h_8, fe_rj h_8, fe_rq h_8]
    exact fv_rt rfl
