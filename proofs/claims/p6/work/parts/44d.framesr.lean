

def w_X6_takeNumber_x : wS := ([194, 196, 197], [], [], [], [])
theorem g_X6_takeNumber_x_L11_f {J : Nat → Int64} {ri : Nat → Nat → Int32} {rj : Nat → Nat → Int64} {rq : Nat → Nat → Option Nat}  : ∀ (n_201 : Nat) (I_153 : Nat → Int32), FRG id w_X6_takeNumber_x (I_153, J, ri, rj, rq) (g_X6_takeNumber_x_L11 J ri rj rq n_201 I_153) := by
  intro n_201
  induction n_201 with
  | zero => intros; exact fv_rt rfl
  | succ n_201 ih =>
    intro I_153
    rw [g_X6_takeNumber_x_L11_e]
    refine fg_ap (fun y_207 => ?_)
    refine fg_ap (fun y_209 => ?_)
    refine fg_if ?_ ?_
    · exact fv_rt rfl
    · refine fg_ap (fun x_219 => ?_)
      refine fg_ap (fun x_221 => ?_)
      refine fg_if ?_ ?_
      · exact fv_rt rfl
      · refine fg_ap (fun y_244 => ?_)
        refine fg_ap (fun x_245 => ?_)
        refine fg_ap (fun x_246 => ?_)
        refine fg_ap (fun x_247 => ?_)
        refine fg_ap (fun x_248 => ?_)
        refine fg_I rfl (fun I_250 => ?_)
        refine fg_ap (fun y_255 => ?_)
        refine fg_ap (fun x_256 => ?_)
        refine fg_I rfl (fun I_258 => ?_)
        exact ih _
theorem g_X6_takeNumber_x_f {I : Nat → Int32} {J : Nat → Int64} {ri : Nat → Nat → Int32} {rj : Nat → Nat → Int64} {rq : Nat → Nat → Option Nat}  : FRG id w_X6_takeNumber_x (I, J, ri, rj, rq) (g_X6_takeNumber_x  I J ri rj rq) := by
  rw [g_X6_takeNumber_x_e]
  refine fg_I rfl (fun I_1 => ?_)
  refine fg_I rfl (fun I_5 => ?_)
  refine fg_ap (fun y_262 => ?_)
  exact g_X6_takeNumber_x_L11_f  _ _

def w_X6_takeLonger_x : wS := ([194, 197], [], [], [], [])
theorem g_X6_takeLonger_x_f {I : Nat → Int32} {J : Nat → Int64} {ri : Nat → Nat → Int32} {rj : Nat → Nat → Int64} {rq : Nat → Nat → Option Nat}  : FRG id w_X6_takeLonger_x (I, J, ri, rj, rq) (g_X6_takeLonger_x  I J ri rj rq) := by
  rw [g_X6_takeLonger_x_e]
  refine fg_ap (fun y_2 => ?_)
  refine fg_ap (fun y_4 => ?_)
  refine fg_if ?_ ?_
  · exact fv_rt rfl
  · refine fg_ap (fun x_16 => ?_)
    refine fg_if ?_ ?_
    · refine fg_ap (fun y_26 => ?_)
      refine fg_if ?_ ?_
      · refine fg_I rfl (fun I_38 => ?_)
        refine fg_ap (fun y_43 => ?_)
        refine fg_ap (fun x_44 => ?_)
        refine fg_I rfl (fun I_46 => ?_)
        exact fv_rt rfl
      · refine fg_if ?_ ?_
        · refine fg_I rfl (fun I_62 => ?_)
          refine fg_ap (fun y_67 => ?_)
          refine fg_ap (fun x_68 => ?_)
          refine fg_I rfl (fun I_70 => ?_)
          exact fv_rt rfl
        · exact fv_rt rfl
    · exact fv_rt rfl

def w_X6_takeWord : wS := ([194, 197], [], [], [], [])
theorem g_X6_takeWord_L57_f {J : Nat → Int64} {ri : Nat → Nat → Int32} {rj : Nat → Nat → Int64} {rq : Nat → Nat → Option Nat}  : ∀ (n_17884 : Nat) (x_17792 : Int32) (x_17793 : Int32) (x_17794 : Int32) (x_17795 : Int32) (I_17796 : Nat → Int32), FRG id w_X6_takeWord (I_17796, J, ri, rj, rq) (g_X6_takeWord_L57 J ri rj rq n_17884 x_17792 x_17793 x_17794 x_17795 I_17796) := by
  intro n_17884
  induction n_17884 with
  | zero => intros; exact fv_rt rfl
  | succ n_17884 ih =>
    intro x_17792 x_17793 x_17794 x_17795 I_17796
    rw [g_X6_takeWord_L57_e]
    refine fg_if ?_ ?_
    · exact fv_rt rfl
    · refine fg_ap (fun y_17908 => ?_)
      refine fg_if ?_ ?_
      · refine fg_ap (fun x_17916 => ?_)
        refine fg_if ?_ ?_
        · refine fg_if ?_ ?_
          · refine fg_ap (fun x_17931 => ?_)
            refine fg_ap (fun y_17933 => ?_)
            refine fg_ap (fun x_17934 => ?_)
            exact ih _ _ _ _ _
          · refine fg_ap (fun y_17939 => ?_)
            refine fg_if ?_ ?_
            · refine fg_I rfl (fun I_17952 => ?_)
              refine fg_ap (fun x_17956 => ?_)
              exact ih _ _ _ _ _
            · refine fg_ap (fun x_17945 => ?_)
              refine fg_ap (fun y_17947 => ?_)
              refine fg_ap (fun x_17948 => ?_)
              exact ih _ _ _ _ _
        · refine fg_if ?_ ?_
          · refine fg_ap (fun x_17967 => ?_)
            refine fg_ap (fun x_17969 => ?_)
            exact ih _ _ _ _ _
          · refine fg_ap (fun y_17974 => ?_)
            refine fg_if ?_ ?_
            · refine fg_ap (fun x_17982 => ?_)
              refine fg_ap (fun x_17984 => ?_)
              exact ih _ _ _ _ _
            · refine fg_ap (fun x_17989 => ?_)
              refine fg_ap (fun x_17990 => ?_)
              refine fg_if ?_ ?_
              · refine fg_ap (fun x_18001 => ?_)
                refine fg_ap (fun x_18003 => ?_)
                exact ih _ _ _ _ _
              · refine fg_ap (fun x_17996 => ?_)
                refine fg_ap (fun x_17998 => ?_)
                exact ih _ _ _ _ _
      · exact fv_rt rfl
theorem g_X6_takeWord_K39_f {I : Nat → Int32} {J : Nat → Int64} {ri : Nat → Nat → Int32} {rj : Nat → Nat → Int64} {rq : Nat → Nat → Option Nat}  : FRG id w_X6_takeWord (I, J, ri, rj, rq) (g_X6_takeWord_K39 I J ri rj rq ) := by
  rw [g_X6_takeWord_K39_e]
  refine fg_I rfl (fun I_15435 => ?_)
  refine fg_ap (fun y_15440 => ?_)
  exact g_X6_takeWord_L57_f  _ _ _ _ _ _
theorem g_X6_takeWord_L57_2_f {J : Nat → Int64} {ri : Nat → Nat → Int32} {rj : Nat → Nat → Int64} {rq : Nat → Nat → Option Nat}  : ∀ (n_33361 : Nat) (x_33269 : Int32) (x_33270 : Int32) (x_33271 : Int32) (x_33272 : Int32) (I_33273 : Nat → Int32), FRG id w_X6_takeWord (I_33273, J, ri, rj, rq) (g_X6_takeWord_L57_2 J ri rj rq n_33361 x_33269 x_33270 x_33271 x_33272 I_33273) := by
  intro n_33361
  induction n_33361 with
  | zero => intros; exact fv_rt rfl
  | succ n_33361 ih =>
    intro x_33269 x_33270 x_33271 x_33272 I_33273
    rw [g_X6_takeWord_L57_2_e]
    refine fg_if ?_ ?_
    · exact fv_rt rfl
    · refine fg_ap (fun y_33385 => ?_)
      refine fg_if ?_ ?_
      · refine fg_ap (fun x_33393 => ?_)
        refine fg_if ?_ ?_
        · refine fg_if ?_ ?_
          · refine fg_ap (fun x_33408 => ?_)
            refine fg_ap (fun y_33410 => ?_)
            refine fg_ap (fun x_33411 => ?_)
            exact ih _ _ _ _ _
          · refine fg_ap (fun y_33416 => ?_)
            refine fg_if ?_ ?_
            · refine fg_I rfl (fun I_33429 => ?_)
              refine fg_ap (fun x_33433 => ?_)
              exact ih _ _ _ _ _
            · refine fg_ap (fun x_33422 => ?_)
              refine fg_ap (fun y_33424 => ?_)
              refine fg_ap (fun x_33425 => ?_)
              exact ih _ _ _ _ _
        · refine fg_if ?_ ?_
          · refine fg_ap (fun x_33444 => ?_)
            refine fg_ap (fun x_33446 => ?_)
            exact ih _ _ _ _ _
          · refine fg_ap (fun y_33451 => ?_)
            refine fg_if ?_ ?_
            · refine fg_ap (fun x_33459 => ?_)
              refine fg_ap (fun x_33461 => ?_)
              exact ih _ _ _ _ _
            · refine fg_ap (fun x_33466 => ?_)
              refine fg_ap (fun x_33467 => ?_)
              refine fg_if ?_ ?_
              · refine fg_ap (fun x_33478 => ?_)
                refine fg_ap (fun x_33480 => ?_)
                exact ih _ _ _ _ _
              · refine fg_ap (fun x_33473 => ?_)
                refine fg_ap (fun x_33475 => ?_)
                exact ih _ _ _ _ _
      · exact fv_rt rfl
theorem g_X6_takeWord_K39_2_f {J : Nat → Int64} {ri : Nat → Nat → Int32} {rj : Nat → Nat → Int64} {rq : Nat → Nat → Option Nat} {I_25761 : Nat → Int32}  : FRG id w_X6_takeWord (I_25761, J, ri, rj, rq) (g_X6_takeWord_K39_2 J ri rj rq I_25761 ) := by
  rw [g_X6_takeWord_K39_2_e]
  refine fg_I rfl (fun I_30912 => ?_)
  refine fg_ap (fun y_30917 => ?_)
  exact g_X6_takeWord_L57_2_f  _ _ _ _ _ _
theorem g_X6_takeWord_L0_f {J : Nat → Int64} {ri : Nat → Nat → Int32} {rj : Nat → Nat → Int64} {rq : Nat → Nat → Option Nat}  : ∀ (n_28334 : Nat) (I_25761 : Nat → Int32), FRG id w_X6_takeWord (I_25761, J, ri, rj, rq) (g_X6_takeWord_L0 J ri rj rq n_28334 I_25761) := by
  intro n_28334
  induction n_28334 with
  | zero => intros; exact fv_rt rfl
  | succ n_28334 ih =>
    intro I_25761
    rw [g_X6_takeWord_L0_e]
    refine fg_ap (fun y_28340 => ?_)
    refine fg_ap (fun y_28342 => ?_)
    refine fg_if ?_ ?_
    · exact g_X6_takeWord_K39_2_f 
    · refine fg_ap (fun x_33491 => ?_)
      refine fg_ap (fun x_33493 => ?_)
      refine fg_if ?_ ?_
      · exact g_X6_takeWord_K39_2_f 
      · refine fg_ap (fun x_33516 => ?_)
        refine fg_I rfl (fun I_33518 => ?_)
        exact ih _
theorem g_X6_takeWord_f {I : Nat → Int32} {J : Nat → Int64} {ri : Nat → Nat → Int32} {rj : Nat → Nat → Int64} {rq : Nat → Nat → Option Nat}  : FRG id w_X6_takeWord (I, J, ri, rj, rq) (g_X6_takeWord  I J ri rj rq) := by
  rw [g_X6_takeWord_e]
  refine fg_ap (fun y_2 => ?_)
  refine fg_ap (fun y_4 => ?_)
  refine fg_if ?_ ?_
  · exact g_X6_takeWord_K39_f 
  · refine fg_ap (fun x_18014 => ?_)
    refine fg_ap (fun x_18016 => ?_)
    refine fg_if ?_ ?_
    · exact g_X6_takeWord_K39_f 
    · refine fg_ap (fun x_18039 => ?_)
      refine fg_I rfl (fun I_18041 => ?_)
      refine fg_ap (fun y_33522 => ?_)
      exact g_X6_takeWord_L0_f  _ _

def w_X6_advance : wS := ([194, 195, 196, 197], [], [], [], [])
theorem g_X6_advance_K52_f {I : Nat → Int32} {J : Nat → Int64} {ri : Nat → Nat → Int32} {rj : Nat → Nat → Int64} {rq : Nat → Nat → Option Nat} {y_2 : Int32}  : FRG id w_X6_advance (I, J, ri, rj, rq) (g_X6_advance_K52 I J ri rj rq y_2 ) := by
  rw [g_X6_advance_K52_e]
  refine fg_I rfl (fun I_1518 => ?_)
  refine fg_ap (fun y_1523 => ?_)
  refine fg_ap (fun y_1525 => ?_)
  refine fg_if ?_ ?_
  · refine fg_ap (fun x_1535 => ?_)
    refine fg_ap (fun x_1536 => ?_)
    refine fg_if ?_ ?_
    · refine fg_ap (fun x_1555 => ?_)
      refine fg_if ?_ ?_
      · refine fg_ap (fun x_1574 => ?_)
        refine fg_I rfl (fun I_1581 => ?_)
        refine fg_ap (fun y_1586 => ?_)
        refine fg_ap (fun x_1587 => ?_)
        refine fg_I rfl (fun I_1589 => ?_)
        refine fg_bV g_X6_takeLonger_x_f rfl (fun I_1595 J_z1 ri_z1 rj_z1 rq_z1 h_1 => ?_)
        rw [fe_J h_1, fe_ri h_1, fe_rj h_1, fe_rq h_1]
        exact fv_rt rfl
      · refine fg_bV g_X6_takeWord_f rfl (fun I_1611 J_z2 ri_z2 rj_z2 rq_z2 h_2 => ?_)
        rw [fe_J h_2, fe_ri h_2, fe_rj h_2, fe_rq h_2]
        exact fv_rt rfl
    · refine fg_bV g_X6_takeNumber_x_f rfl (fun I_1627 J_z3 ri_z3 rj_z3 rq_z3 h_3 => ?_)
      rw [fe_J h_3, fe_ri h_3, fe_rj h_3, fe_rq h_3]
      exact fv_rt rfl
  · refine fg_I rfl (fun I_1637 => ?_)
    exact fv_rt rfl
theorem g_X6_advance_K52_2_f {J : Nat → Int64} {ri : Nat → Nat → Int32} {rj : Nat → Nat → Int64} {rq : Nat → Nat → Option Nat} {I_2077 : Nat → Int32} {y_2222 : Int32}  : FRG id w_X6_advance (I_2077, J, ri, rj, rq) (g_X6_advance_K52_2 J ri rj rq I_2077 y_2222 ) := by
  rw [g_X6_advance_K52_2_e]
  refine fg_I rfl (fun I_2358 => ?_)
  refine fg_ap (fun y_2363 => ?_)
  refine fg_ap (fun y_2365 => ?_)
  refine fg_if ?_ ?_
  · refine fg_ap (fun x_2373 => ?_)
    refine fg_ap (fun x_2374 => ?_)
    refine fg_if ?_ ?_
    · refine fg_ap (fun x_2393 => ?_)
      refine fg_if ?_ ?_
      · refine fg_ap (fun x_2412 => ?_)
        refine fg_I rfl (fun I_2419 => ?_)
        refine fg_ap (fun y_2424 => ?_)
        refine fg_ap (fun x_2425 => ?_)
        refine fg_I rfl (fun I_2427 => ?_)
        refine fg_bV g_X6_takeLonger_x_f rfl (fun I_2433 J_z4 ri_z4 rj_z4 rq_z4 h_4 => ?_)
        rw [fe_J h_4, fe_ri h_4, fe_rj h_4, fe_rq h_4]
        exact fv_rt rfl
      · refine fg_bV g_X6_takeWord_f rfl (fun I_2450 J_z5 ri_z5 rj_z5 rq_z5 h_5 => ?_)
        rw [fe_J h_5, fe_ri h_5, fe_rj h_5, fe_rq h_5]
        exact fv_rt rfl
    · refine fg_bV g_X6_takeNumber_x_f rfl (fun I_2467 J_z6 ri_z6 rj_z6 rq_z6 h_6 => ?_)
      rw [fe_J h_6, fe_ri h_6, fe_rj h_6, fe_rq h_6]
      exact fv_rt rfl
  · refine fg_I rfl (fun I_2478 => ?_)
    exact fv_rt rfl
theorem g_X6_advance_L0_f {J : Nat → Int64} {ri : Nat → Nat → Int32} {rj : Nat → Nat → Int64} {rq : Nat → Nat → Option Nat}  : ∀ (n_2216 : Nat) (I_2077 : Nat → Int32), FRG id w_X6_advance (I_2077, J, ri, rj, rq) (g_X6_advance_L0 J ri rj rq n_2216 I_2077) := by
  intro n_2216
  induction n_2216 with
  | zero => intros; exact fv_rt rfl
  | succ n_2216 ih =>
    intro I_2077
    rw [g_X6_advance_L0_e]
    refine fg_ap (fun y_2222 => ?_)
    refine fg_ap (fun y_2224 => ?_)
    refine fg_if ?_ ?_
    · exact g_X6_advance_K52_2_f 
    · refine fg_ap (fun x_2491 => ?_)
      refine fg_if ?_ ?_
      · refine fg_ap (fun x_2498 => ?_)
        refine fg_I rfl (fun I_2500 => ?_)
        exact ih _
      · refine fg_if ?_ ?_
        · refine fg_ap (fun x_2512 => ?_)
          refine fg_I rfl (fun I_2514 => ?_)
          exact ih _
        · exact g_X6_advance_K52_2_f 
theorem g_X6_advance_K52_3_f {J : Nat → Int64} {ri : Nat → Nat → Int32} {rj : Nat → Nat → Int64} {rq : Nat → Nat → Option Nat} {I_2946 : Nat → Int32} {y_3091 : Int32}  : FRG id w_X6_advance (I_2946, J, ri, rj, rq) (g_X6_advance_K52_3 J ri rj rq I_2946 y_3091 ) := by
  rw [g_X6_advance_K52_3_e]
  refine fg_I rfl (fun I_3227 => ?_)
  refine fg_ap (fun y_3232 => ?_)
  refine fg_ap (fun y_3234 => ?_)
  refine fg_if ?_ ?_
  · refine fg_ap (fun x_3242 => ?_)
    refine fg_ap (fun x_3243 => ?_)
    refine fg_if ?_ ?_
    · refine fg_ap (fun x_3262 => ?_)
      refine fg_if ?_ ?_
      · refine fg_ap (fun x_3281 => ?_)
        refine fg_I rfl (fun I_3288 => ?_)
        refine fg_ap (fun y_3293 => ?_)
        refine fg_ap (fun x_3294 => ?_)
        refine fg_I rfl (fun I_3296 => ?_)
        refine fg_bV g_X6_takeLonger_x_f rfl (fun I_3302 J_z7 ri_z7 rj_z7 rq_z7 h_7 => ?_)
        rw [fe_J h_7, fe_ri h_7, fe_rj h_7, fe_rq h_7]
        exact fv_rt rfl
      · refine fg_bV g_X6_takeWord_f rfl (fun I_3319 J_z8 ri_z8 rj_z8 rq_z8 h_8 => ?_)
        rw [fe_J h_8, fe_ri h_8, fe_rj h_8, fe_rq h_8]
        exact fv_rt rfl
    · refine fg_bV g_X6_takeNumber_x_f rfl (fun I_3336 J_z9 ri_z9 rj_z9 rq_z9 h_9 => ?_)
      rw [fe_J h_9, fe_ri h_9, fe_rj h_9, fe_rq h_9]
      exact fv_rt rfl
  · refine fg_I rfl (fun I_3347 => ?_)
    exact fv_rt rfl
theorem g_X6_advance_L0_2_f {J : Nat → Int64} {ri : Nat → Nat → Int32} {rj : Nat → Nat → Int64} {rq : Nat → Nat → Option Nat}  : ∀ (n_3085 : Nat) (I_2946 : Nat → Int32), FRG id w_X6_advance (I_2946, J, ri, rj, rq) (g_X6_advance_L0_2 J ri rj rq n_3085 I_2946) := by
  intro n_3085
  induction n_3085 with
  | zero => intros; exact fv_rt rfl
  | succ n_3085 ih =>
    intro I_2946
    rw [g_X6_advance_L0_2_e]
    refine fg_ap (fun y_3091 => ?_)
    refine fg_ap (fun y_3093 => ?_)
    refine fg_if ?_ ?_
    · exact g_X6_advance_K52_3_f 
    · refine fg_ap (fun x_3360 => ?_)
      refine fg_if ?_ ?_
      · refine fg_ap (fun x_3367 => ?_)
        refine fg_I rfl (fun I_3369 => ?_)
        exact ih _
      · refine fg_if ?_ ?_
        · refine fg_ap (fun x_3381 => ?_)
          refine fg_I rfl (fun I_3383 => ?_)
          exact ih _
        · exact g_X6_advance_K52_3_f 
theorem g_X6_advance_f {I : Nat → Int32} {J : Nat → Int64} {ri : Nat → Nat → Int32} {rj : Nat → Nat → Int64} {rq : Nat → Nat → Option Nat}  : FRG id w_X6_advance (I, J, ri, rj, rq) (g_X6_advance  I J ri rj rq) := by
  rw [g_X6_advance_e]
  refine fg_ap (fun y_2 => ?_)
  refine fg_ap (fun y_4 => ?_)
  refine fg_if ?_ ?_
  · exact g_X6_advance_K52_f 
  · refine fg_ap (fun x_1651 => ?_)
    refine fg_if ?_ ?_
    · refine fg_ap (fun x_1658 => ?_)
      refine fg_I rfl (fun I_1660 => ?_)
      refine fg_ap (fun y_2518 => ?_)
      exact g_X6_advance_L0_f  _ _
    · refine fg_if ?_ ?_
      · refine fg_ap (fun x_2527 => ?_)
        refine fg_I rfl (fun I_2529 => ?_)
        refine fg_ap (fun y_3387 => ?_)
        exact g_X6_advance_L0_2_f  _ _
      · exact g_X6_advance_K52_f 

def w_X4_refuse : wS := ([129, 130], [], [], [], [])
theorem g_X4_refuse_f {a0 : Int32} {I : Nat → Int32} {J : Nat → Int64} {ri : Nat → Nat → Int32} {rj : Nat → Nat → Int64} {rq : Nat → Nat → Option Nat}  : FRG id w_X4_refuse (I, J, ri, rj, rq) (g_X4_refuse  a0 I J ri rj rq) := by
  rw [g_X4_refuse_e]
  refine fg_ap (fun y_1 => ?_)
  refine fg_if ?_ ?_
  · refine fg_I rfl (fun I_9 => ?_)
    refine fg_ap (fun y_15 => ?_)
    refine fg_I rfl (fun I_16 => ?_)
    exact fv_rt rfl
  · exact fv_rt rfl

def w_X4_emit : wS := ([132], [], [259], [], [])
theorem g_X4_emit_f {a0 : Int32} {I : Nat → Int32} {J : Nat → Int64} {ri : Nat → Nat → Int32} {rj : Nat → Nat → Int64} {rq : Nat → Nat → Option Nat}  : FRG id w_X4_emit (I, J, ri, rj, rq) (g_X4_emit  a0 I J ri rj rq) := by
  rw [g_X4_emit_e]
  refine fg_ap (fun y_2 => ?_)
  refine fg_if ?_ ?_
  · exact fv_rt rfl
  · refine fg_ri rfl (fun r_14 => ?_)
    refine fg_ap (fun x_15 => ?_)
    refine fg_I rfl (fun I_17 => ?_)
    exact fv_rt rfl


def w_X4_await : wS := ([134], [], [133], [], [])
theorem g_X4_await_f {a0 : Int32} {I : Nat → Int32} {J : Nat → Int64} {ri : Nat → Nat → Int32} {rj : Nat → Nat → Int64} {rq : Nat → Nat → Option Nat}  : FRG id w_X4_await (I, J, ri, rj, rq) (g_X4_await  a0 I J ri rj rq) := by
  rw [g_X4_await_e]
  refine fg_ap (fun y_2 => ?_)
  refine fg_if ?_ ?_
  · exact fv_rt rfl
  · refine fg_ri rfl (fun r_13 => ?_)
    refine fg_ap (fun x_14 => ?_)
    refine fg_I rfl (fun I_16 => ?_)
    exact fv_rt rfl

def w_X4_openUp : wS := ([129, 130, 134, 135, 136, 137], [], [133], [], [])
theorem g_X4_openUp_f {a0 : Int32} {I : Nat → Int32} {J : Nat → Int64} {ri : Nat → Nat → Int32} {rj : Nat → Nat → Int64} {rq : Nat → Nat → Option Nat}  : FRG id w_X4_openUp (I, J, ri, rj, rq) (g_X4_openUp  a0 I J ri rj rq) := by
  rw [g_X4_openUp_e]
  refine fg_ap (fun y_1 => ?_)
  refine fg_if ?_ ?_
  · refine fg_ap (fun x_9 => ?_)
    refine fg_I rfl (fun I_11 => ?_)
    refine fg_if ?_ ?_
    · refine fg_ap (fun y_67 => ?_)
      refine fg_ap (fun x_68 => ?_)
      refine fg_I rfl (fun I_69 => ?_)
      refine fg_I rfl (fun I_77 => ?_)
      refine fg_bV g_X4_await_f rfl (fun I_83 J_z1 ri_84 rj_z1 rq_z1 h_1 => ?_)
      rw [fe_J h_1, fe_rj h_1, fe_rq h_1]
      exact fv_rt rfl
    · refine fg_if ?_ ?_
      · refine fg_I rfl (fun I_46 => ?_)
        refine fg_bV g_X4_await_f rfl (fun I_52 J_z2 ri_53 rj_z2 rq_z2 h_2 => ?_)
        rw [fe_J h_2, fe_rj h_2, fe_rq h_2]
        exact fv_rt rfl
      · refine fg_I rfl (fun I_25 => ?_)
        refine fg_bV g_X4_await_f rfl (fun I_31 J_z3 ri_32 rj_z3 rq_z3 h_3 => ?_)
        rw [fe_J h_3, fe_rj h_3, fe_rq h_3]
        exact fv_rt rfl
  · refine fg_bV g_X4_refuse_f rfl (fun I_101 J_z4 ri_z4 rj_z4 rq_z4 h_4 => ?_)
    rw [fe_J h_4, fe_ri h_4, fe_rj h_4, fe_rq h_4]
    refine fg_ap (fun y_111 => ?_)
    refine fg_ap (fun x_112 => ?_)
    refine fg_I rfl (fun I_113 => ?_)
    refine fg_if ?_ ?_
    · refine fg_ap (fun y_169 => ?_)
      refine fg_ap (fun x_170 => ?_)
      refine fg_I rfl (fun I_171 => ?_)
      refine fg_I rfl (fun I_179 => ?_)
      refine fg_bV g_X4_await_f rfl (fun I_185 J_z5 ri_186 rj_z5 rq_z5 h_5 => ?_)
      rw [fe_J h_5, fe_rj h_5, fe_rq h_5]
      exact fv_rt rfl
    · refine fg_if ?_ ?_
      · refine fg_I rfl (fun I_148 => ?_)
        refine fg_bV g_X4_await_f rfl (fun I_154 J_z6 ri_155 rj_z6 rq_z6 h_6 => ?_)
        rw [fe_J h_6, fe_rj h_6, fe_rq h_6]
        exact fv_rt rfl
      · refine fg_I rfl (fun I_127 => ?_)
        refine fg_bV g_X4_await_f rfl (fun I_133 J_z7 ri_134 rj_z7 rq_z7 h_7 => ?_)
        rw [fe_J h_7, fe_rj h_7, fe_rq h_7]
        exact fv_rt rfl

def w_X4_readOne : wS := ([129, 130, 132, 134, 135, 136, 137], [], [133, 259], [], [])
theorem g_X4_readOne_f {I : Nat → Int32} {J : Nat → Int64} {ri : Nat → Nat → Int32} {rj : Nat → Nat → Int64} {rq : Nat → Nat → Option Nat}  : FRG Prod.snd w_X4_readOne (I, J, ri, rj, rq) (g_X4_readOne  I J ri rj rq) := by
  rw [g_X4_readOne_e]
  refine fg_ap (fun y_1 => ?_)
  refine fg_if ?_ ?_
  · refine fg_ap (fun y_172 => ?_)
    refine fg_if ?_ ?_
    · refine fg_bV g_X4_emit_f rfl (fun I_182 J_z1 ri_183 rj_z1 rq_z1 h_1 => ?_)
      rw [fe_J h_1, fe_rj h_1, fe_rq h_1]
      exact fv_rt rfl
    · refine fg_bV g_X4_refuse_f rfl (fun I_201 J_z2 ri_z2 rj_z2 rq_z2 h_2 => ?_)
      rw [fe_J h_2, fe_ri h_2, fe_rj h_2, fe_rq h_2]
      refine fg_ap (fun y_213 => ?_)
      refine fg_bV g_X4_emit_f rfl (fun I_216 J_z3 ri_217 rj_z3 rq_z3 h_3 => ?_)
      rw [fe_J h_3, fe_rj h_3, fe_rq h_3]
      exact fv_rt rfl
  · refine fg_ap (fun x_7 => ?_)
    refine fg_if ?_ ?_
    · refine fg_if ?_ ?_
      · refine fg_bV g_X4_openUp_f rfl (fun I_38 J_z4 ri_39 rj_z4 rq_z4 h_4 => ?_)
        rw [fe_J h_4, fe_rj h_4, fe_rq h_4]
        exact fv_rt rfl
      · refine fg_if ?_ ?_
        · refine fg_bV g_X4_openUp_f rfl (fun I_65 J_z5 ri_66 rj_z5 rq_z5 h_5 => ?_)
          rw [fe_J h_5, fe_rj h_5, fe_rq h_5]
          exact fv_rt rfl
        · refine fg_if ?_ ?_
          · refine fg_ap (fun y_103 => ?_)
            refine fg_if ?_ ?_
            · refine fg_bV g_X4_refuse_f rfl (fun I_113 J_z6 ri_z6 rj_z6 rq_z6 h_6 => ?_)
              rw [fe_J h_6, fe_ri h_6, fe_rj h_6, fe_rq h_6]
              exact fv_rt rfl
            · refine fg_bV g_X4_openUp_f rfl (fun I_133 J_z7 ri_134 rj_z7 rq_z7 h_7 => ?_)
              rw [fe_J h_7, fe_rj h_7, fe_rq h_7]
              exact fv_rt rfl
          · refine fg_bV g_X4_refuse_f rfl (fun I_88 J_z8 ri_z8 rj_z8 rq_z8 h_8 => ?_)
            rw [fe_J h_8, fe_ri h_8, fe_rj h_8, fe_rq h_8]
            exact fv_rt rfl
    · refine fg_ap (fun x_151 => ?_)
      refine fg_bV g_X4_emit_f rfl (fun I_155 J_z9 ri_156 rj_z9 rq_z9 h_9 => ?_)
      rw [fe_J h_9, fe_rj h_9, fe_rq h_9]
      exact fv_rt rfl


def w_X4_settle : wS := ([132, 134, 135], [], [259], [], [])
theorem g_X4_settle_L0_f {a0 : Int32} {J : Nat → Int64} {rj : Nat → Nat → Int64} {rq : Nat → Nat → Option Nat}  : ∀ (n_351 : Nat) (I_279 : Nat → Int32) (ri_280 : Nat → Nat → Int32), FRG id w_X4_settle (I_279, J, ri_280, rj, rq) (g_X4_settle_L0 a0 J rj rq n_351 I_279 ri_280) := by
  intro n_351
  induction n_351 with
  | zero => intros; exact fv_rt rfl
  | succ n_351 ih =>
    intro I_279 ri_280
    rw [g_X4_settle_L0_e]
    refine fg_ap (fun y_359 => ?_)
    refine fg_if ?_ ?_
    · exact fv_rt rfl
    · refine fg_ap (fun x_369 => ?_)
      refine fg_ap (fun x_371 => ?_)
      refine fg_ap (fun x_372 => ?_)
      refine fg_if ?_ ?_
      · exact fv_rt rfl
      · refine fg_ap (fun x_388 => ?_)
        refine fg_I rfl (fun I_390 => ?_)
        refine fg_ap (fun y_395 => ?_)
        refine fg_ap (fun x_396 => ?_)
        refine fg_ap (fun x_397 => ?_)
        refine fg_bV g_X4_emit_f rfl (fun I_400 J_z1 ri_401 rj_z1 rq_z1 h_1 => ?_)
        rw [fe_J h_1, fe_rj h_1, fe_rq h_1]
        refine fg_if ?_ ?_
        · refine fg_ap (fun y_419 => ?_)
          refine fg_ap (fun x_420 => ?_)
          refine fg_I rfl (fun I_421 => ?_)
          exact ih _ _
        · refine fg_if ?_ ?_
          · refine fg_ap (fun y_433 => ?_)
            refine fg_ap (fun x_434 => ?_)
            refine fg_I rfl (fun I_435 => ?_)
            exact ih _ _
          · exact ih _ _
theorem g_X4_settle_L0_2_f {a0 : Int32} {J : Nat → Int64} {rj : Nat → Nat → Int64} {rq : Nat → Nat → Option Nat}  : ∀ (n_728 : Nat) (I_656 : Nat → Int32) (ri_657 : Nat → Nat → Int32), FRG id w_X4_settle (I_656, J, ri_657, rj, rq) (g_X4_settle_L0_2 a0 J rj rq n_728 I_656 ri_657) := by
  intro n_728
  induction n_728 with
  | zero => intros; exact fv_rt rfl
  | succ n_728 ih =>
    intro I_656 ri_657
    rw [g_X4_settle_L0_2_e]
    refine fg_ap (fun y_736 => ?_)
    refine fg_if ?_ ?_
    · exact fv_rt rfl
    · refine fg_ap (fun x_746 => ?_)
      refine fg_ap (fun x_748 => ?_)
      refine fg_ap (fun x_749 => ?_)
      refine fg_if ?_ ?_
      · exact fv_rt rfl
      · refine fg_ap (fun x_765 => ?_)
        refine fg_I rfl (fun I_767 => ?_)
        refine fg_ap (fun y_772 => ?_)
        refine fg_ap (fun x_773 => ?_)
        refine fg_ap (fun x_774 => ?_)
        refine fg_bV g_X4_emit_f rfl (fun I_777 J_z2 ri_778 rj_z2 rq_z2 h_2 => ?_)
        rw [fe_J h_2, fe_rj h_2, fe_rq h_2]
        refine fg_if ?_ ?_
        · refine fg_ap (fun y_796 => ?_)
          refine fg_ap (fun x_797 => ?_)
          refine fg_I rfl (fun I_798 => ?_)
          exact ih _ _
        · refine fg_if ?_ ?_
          · refine fg_ap (fun y_810 => ?_)
            refine fg_ap (fun x_811 => ?_)
            refine fg_I rfl (fun I_812 => ?_)
            exact ih _ _
          · exact ih _ _
theorem g_X4_settle_L0_3_f {a0 : Int32} {J : Nat → Int64} {rj : Nat → Nat → Int64} {rq : Nat → Nat → Option Nat}  : ∀ (n_1107 : Nat) (I_1035 : Nat → Int32) (ri_1036 : Nat → Nat → Int32), FRG id w_X4_settle (I_1035, J, ri_1036, rj, rq) (g_X4_settle_L0_3 a0 J rj rq n_1107 I_1035 ri_1036) := by
  intro n_1107
  induction n_1107 with
  | zero => intros; exact fv_rt rfl
  | succ n_1107 ih =>
    intro I_1035 ri_1036
    rw [g_X4_settle_L0_3_e]
    refine fg_ap (fun y_1115 => ?_)
    refine fg_if ?_ ?_
    · exact fv_rt rfl
    · refine fg_ap (fun x_1125 => ?_)
      refine fg_ap (fun x_1127 => ?_)
      refine fg_ap (fun x_1128 => ?_)
      refine fg_if ?_ ?_
      · exact fv_rt rfl
      · refine fg_ap (fun x_1144 => ?_)
        refine fg_I rfl (fun I_1146 => ?_)
        refine fg_ap (fun y_1151 => ?_)
        refine fg_ap (fun x_1152 => ?_)
        refine fg_ap (fun x_1153 => ?_)
        refine fg_bV g_X4_emit_f rfl (fun I_1156 J_z3 ri_1157 rj_z3 rq_z3 h_3 => ?_)
        rw [fe_J h_3, fe_rj h_3, fe_rq h_3]
        refine fg_if ?_ ?_
        · refine fg_ap (fun y_1175 => ?_)
          refine fg_ap (fun x_1176 => ?_)
          refine fg_I rfl (fun I_1177 => ?_)
          exact ih _ _
        · refine fg_if ?_ ?_
          · refine fg_ap (fun y_1189 => ?_)
            refine fg_ap (fun x_1190 => ?_)
            refine fg_I rfl (fun I_1191 => ?_)
            exact ih _ _
          · exact ih _ _
theorem g_X4_settle_f {a0 : Int32} {I : Nat → Int32} {J : Nat → Int64} {ri : Nat → Nat → Int32} {rj : Nat → Nat → Int64} {rq : Nat → Nat → Option Nat}  : FRG id w_X4_settle (I, J, ri, rj, rq) (g_X4_settle  a0 I J ri rj rq) := by
  rw [g_X4_settle_e]
  refine fg_ap (fun y_2 => ?_)
  refine fg_if ?_ ?_
  · exact fv_rt rfl
  · refine fg_ap (fun x_13 => ?_)
    refine fg_ap (fun x_15 => ?_)
    refine fg_ap (fun x_16 => ?_)
    refine fg_if ?_ ?_
    · exact fv_rt rfl
    · refine fg_ap (fun x_32 => ?_)
      refine fg_I rfl (fun I_34 => ?_)
      refine fg_ap (fun y_39 => ?_)
      refine fg_ap (fun x_40 => ?_)
      refine fg_ap (fun x_41 => ?_)
      refine fg_bV g_X4_emit_f rfl (fun I_44 J_z4 ri_45 rj_z4 rq_z4 h_4 => ?_)
      rw [fe_J h_4, fe_rj h_4, fe_rq h_4]
      refine fg_if ?_ ?_
      · refine fg_ap (fun y_63 => ?_)
        refine fg_ap (fun x_64 => ?_)
        refine fg_I rfl (fun I_65 => ?_)
        refine fg_ap (fun y_439 => ?_)
        exact g_X4_settle_L0_f  _ _ _
      · refine fg_if ?_ ?_
        · refine fg_ap (fun y_819 => ?_)
          refine fg_ap (fun x_820 => ?_)
          refine fg_I rfl (fun I_821 => ?_)
          refine fg_ap (fun y_1195 => ?_)
          exact g_X4_settle_L0_3_f  _ _ _
        · refine fg_ap (fun y_816 => ?_)
          exact g_X4_settle_L0_2_f  _ _ _

def w_X4_readBehindOne : wS := ([129, 130, 132, 134, 135, 136, 137, 138, 139], [], [133, 259], [], [])
theorem g_X4_readBehindOne_f {I : Nat → Int32} {J : Nat → Int64} {ri : Nat → Nat → Int32} {rj : Nat → Nat → Int64} {rq : Nat → Nat → Option Nat}  : FRG Prod.snd w_X4_readBehindOne (I, J, ri, rj, rq) (g_X4_readBehindOne  I J ri rj rq) := by
  rw [g_X4_readBehindOne_e]
  refine fg_ap (fun y_1 => ?_)
  refine fg_I rfl (fun I_2 => ?_)
  refine fg_if ?_ ?_
  · refine fg_ap (fun y_15 => ?_)
    refine fg_if ?_ ?_
    · refine fg_ap (fun y_24 => ?_)
      refine fg_if ?_ ?_
      · refine fg_if ?_ ?_
        · refine fg_bV g_X4_refuse_f rfl (fun I_220 J_z1 ri_z1 rj_z1 rq_z1 h_1 => ?_)
          rw [fe_J h_1, fe_ri h_1, fe_rj h_1, fe_rq h_1]
          refine fg_bV g_X4_settle_f rfl (fun I_234 J_z2 ri_235 rj_z2 rq_z2 h_2 => ?_)
          rw [fe_J h_2, fe_rj h_2, fe_rq h_2]
          refine fg_I rfl (fun I_248 => ?_)
          exact fv_rt rfl
        · refine fg_I rfl (fun I_263 => ?_)
          refine fg_ap (fun x_269 => ?_)
          refine fg_bV g_X4_settle_f rfl (fun I_278 J_z3 ri_279 rj_z3 rq_z3 h_3 => ?_)
          rw [fe_J h_3, fe_rj h_3, fe_rq h_3]
          refine fg_bV g_X4_await_f rfl (fun I_294 J_z4 ri_295 rj_z4 rq_z4 h_4 => ?_)
          rw [fe_J h_4, fe_rj h_4, fe_rq h_4]
          exact fv_rt rfl
      · refine fg_if ?_ ?_
        · refine fg_I rfl (fun I_43 => ?_)
          refine fg_I rfl (fun I_49 => ?_)
          refine fg_ap (fun x_55 => ?_)
          refine fg_bV g_X4_settle_f rfl (fun I_64 J_z5 ri_65 rj_z5 rq_z5 h_5 => ?_)
          rw [fe_J h_5, fe_rj h_5, fe_rq h_5]
          refine fg_bV g_X4_await_f rfl (fun I_80 J_z6 ri_81 rj_z6 rq_z6 h_6 => ?_)
          rw [fe_J h_6, fe_rj h_6, fe_rq h_6]
          exact fv_rt rfl
        · refine fg_if ?_ ?_
          · refine fg_I rfl (fun I_149 => ?_)
            refine fg_I rfl (fun I_155 => ?_)
            refine fg_ap (fun x_161 => ?_)
            refine fg_bV g_X4_settle_f rfl (fun I_170 J_z7 ri_171 rj_z7 rq_z7 h_7 => ?_)
            rw [fe_J h_7, fe_rj h_7, fe_rq h_7]
            refine fg_bV g_X4_await_f rfl (fun I_186 J_z8 ri_187 rj_z8 rq_z8 h_8 => ?_)
            rw [fe_J h_8, fe_rj h_8, fe_rq h_8]
            exact fv_rt rfl
          · refine fg_bV g_X4_refuse_f rfl (fun I_113 J_z9 ri_z9 rj_z9 rq_z9 h_9 => ?_)
            rw [fe_J h_9, fe_ri h_9, fe_rj h_9, fe_rq h_9]
            refine fg_bV g_X4_settle_f rfl (fun I_127 J_z10 ri_128 rj_z10 rq_z10 h_10 => ?_)
            rw [fe_J h_10, fe_rj h_10, fe_rq h_10]
            refine fg_I rfl (fun I_141 => ?_)
            exact fv_rt rfl
    · refine fg_bV g_X4_refuse_f rfl (fun I_318 J_z11 ri_z11 rj_z11 rq_z11 h_11 => ?_)
      rw [fe_J h_11, fe_ri h_11, fe_rj h_11, fe_rq h_11]
      refine fg_bV g_X4_settle_f rfl (fun I_332 J_z12 ri_333 rj_z12 rq_z12 h_12 => ?_)
      rw [fe_J h_12, fe_rj h_12, fe_rq h_12]
      refine fg_ap (fun y_346 => ?_)
      refine fg_ap (fun x_347 => ?_)
      refine fg_I rfl (fun I_348 => ?_)
      refine fg_ap (fun y_354 => ?_)
      refine fg_ap (fun x_355 => ?_)
      refine fg_I rfl (fun I_356 => ?_)
      refine fg_ap (fun y_363 => ?_)
      refine fg_ap (fun x_364 => ?_)
      refine fg_ap (fun x_366 => ?_)
      refine fg_I rfl (fun I_368 => ?_)
      exact fv_rt rfl
  · refine fg_if ?_ ?_
    · refine fg_ap (fun y_383 => ?_)
      refine fg_if ?_ ?_
      · refine fg_ap (fun y_392 => ?_)
        refine fg_if ?_ ?_
        · refine fg_bV g_X4_refuse_f rfl (fun I_506 J_z13 ri_z13 rj_z13 rq_z13 h_13 => ?_)
          rw [fe_J h_13, fe_ri h_13, fe_rj h_13, fe_rq h_13]
          refine fg_bV g_X4_settle_f rfl (fun I_520 J_z14 ri_521 rj_z14 rq_z14 h_14 => ?_)
          rw [fe_J h_14, fe_rj h_14, fe_rq h_14]
          refine fg_I rfl (fun I_534 => ?_)
          exact fv_rt rfl
        · refine fg_if ?_ ?_
          · refine fg_bV g_X4_settle_f rfl (fun I_427 J_z15 ri_428 rj_z15 rq_z15 h_15 => ?_)
            rw [fe_J h_15, fe_rj h_15, fe_rq h_15]
            refine fg_I rfl (fun I_441 => ?_)
            exact fv_rt rfl
          · refine fg_bV g_X4_refuse_f rfl (fun I_450 J_z16 ri_z16 rj_z16 rq_z16 h_16 => ?_)
            rw [fe_J h_16, fe_ri h_16, fe_rj h_16, fe_rq h_16]
            refine fg_bV g_X4_settle_f rfl (fun I_464 J_z17 ri_465 rj_z17 rq_z17 h_17 => ?_)
            rw [fe_J h_17, fe_rj h_17, fe_rq h_17]
            refine fg_I rfl (fun I_478 => ?_)
            exact fv_rt rfl
      · refine fg_if ?_ ?_
        · refine fg_bV g_X4_settle_f rfl (fun I_553 J_z18 ri_554 rj_z18 rq_z18 h_18 => ?_)
          rw [fe_J h_18, fe_rj h_18, fe_rq h_18]
          refine fg_ap (fun y_567 => ?_)
          refine fg_ap (fun x_568 => ?_)
          refine fg_I rfl (fun I_569 => ?_)
          refine fg_ap (fun y_575 => ?_)
          refine fg_ap (fun x_576 => ?_)
          refine fg_I rfl (fun I_577 => ?_)
          refine fg_ap (fun y_584 => ?_)
          refine fg_ap (fun x_585 => ?_)
          refine fg_ap (fun x_587 => ?_)
          refine fg_I rfl (fun I_589 => ?_)
          exact fv_rt rfl
        · refine fg_bV g_X4_refuse_f rfl (fun I_598 J_z19 ri_z19 rj_z19 rq_z19 h_19 => ?_)
          rw [fe_J h_19, fe_ri h_19, fe_rj h_19, fe_rq h_19]
          refine fg_bV g_X4_settle_f rfl (fun I_612 J_z20 ri_613 rj_z20 rq_z20 h_20 => ?_)
          rw [fe_J h_20, fe_rj h_20, fe_rq h_20]
          refine fg_ap (fun y_626 => ?_)
          refine fg_ap (fun x_627 => ?_)
          refine fg_I rfl (fun I_628 => ?_)
          refine fg_ap (fun y_634 => ?_)
          refine fg_ap (fun x_635 => ?_)
          refine fg_I rfl (fun I_636 => ?_)
          refine fg_ap (fun y_643 => ?_)
          refine fg_ap (fun x_644 => ?_)
          refine fg_ap (fun x_646 => ?_)
          refine fg_I rfl (fun I_648 => ?_)
          exact fv_rt rfl
    · refine fg_ap (fun x_656 => ?_)
      refine fg_bV g_X4_settle_f rfl (fun I_665 J_z21 ri_666 rj_z21 rq_z21 h_21 => ?_)
      rw [fe_J h_21, fe_rj h_21, fe_rq h_21]
      refine fg_bV g_X4_await_f rfl (fun I_681 J_z22 ri_682 rj_z22 rq_z22 h_22 => ?_)
      rw [fe_J h_22, fe_rj h_22, fe_rq h_22]
      exact fv_rt rfl

def w_X4_readEither : wS := ([129, 130, 132, 134, 135, 136, 137, 138, 139, 194, 195, 196, 197], [], [133, 259], [], [])
theorem g_X4_readEither_L34_f {J : Nat → Int64} {rj : Nat → Nat → Int64} {rq : Nat → Nat → Option Nat}  : ∀ (n_1571 : Nat) (x_1489 : Int32) (x_1490 : Int32) (I_1491 : Nat → Int32) (ri_1492 : Nat → Nat → Int32), FRG id w_X4_readEither (I_1491, J, ri_1492, rj, rq) (g_X4_readEither_L34 J rj rq n_1571 x_1489 x_1490 I_1491 ri_1492) := by
  intro n_1571
  induction n_1571 with
  | zero => intros; exact fv_rt rfl
  | succ n_1571 ih =>
    intro x_1489 x_1490 I_1491 ri_1492
    rw [g_X4_readEither_L34_e]
    refine fg_if ?_ ?_
    · exact fv_rt rfl
    · refine fg_ap (fun y_1591 => ?_)
      refine fg_if ?_ ?_
      · refine fg_ap (fun y_1600 => ?_)
        refine fg_if ?_ ?_
        · refine fg_bV g_X6_advance_f rfl (fun I_1612 J_z1 ri_z1 rj_z1 rq_z1 h_1 => ?_)
          rw [fe_J h_1, fe_ri h_1, fe_rj h_1, fe_rq h_1]
          refine fg_if ?_ ?_
          · refine fg_bI g_X4_readBehindOne_f rfl (fun x_1632 I_1634 J_z2 ri_1635 rj_z2 rq_z2 h_2 => ?_)
            rw [fe_J h_2, fe_rj h_2, fe_rq h_2]
            refine fg_ap (fun x_1648 => ?_)
            exact ih _ _ _ _
          · refine fg_bI g_X4_readOne_f rfl (fun x_1652 I_1654 J_z3 ri_1655 rj_z3 rq_z3 h_3 => ?_)
            rw [fe_J h_3, fe_rj h_3, fe_rq h_3]
            refine fg_ap (fun x_1668 => ?_)
            exact ih _ _ _ _
        · exact fv_rt rfl
      · exact fv_rt rfl
theorem g_X4_readEither_f {I : Nat → Int32} {J : Nat → Int64} {ri : Nat → Nat → Int32} {rj : Nat → Nat → Int64} {rq : Nat → Nat → Option Nat}  : FRG id w_X4_readEither (I, J, ri, rj, rq) (g_X4_readEither  I J ri rj rq) := by
  rw [g_X4_readEither_e]
  refine fg_I rfl (fun I_1 => ?_)
  refine fg_I rfl (fun I_7 => ?_)
  refine fg_I rfl (fun I_13 => ?_)
  refine fg_I rfl (fun I_19 => ?_)
  refine fg_I rfl (fun I_25 => ?_)
  refine fg_I rfl (fun I_31 => ?_)
  exact g_X4_readEither_L34_f  _ _ _ _ _

def w_X8_firstOf_R : wS := ([], [], [], [], [])
theorem g_X8_firstOf_R_L2_f {a0 : Int32} {I : Nat → Int32} {J : Nat → Int64} {ri : Nat → Nat → Int32} {rj : Nat → Nat → Int64} {rq : Nat → Nat → Option Nat}  : ∀ (n_144 : Nat) (x_127 : Int32), FRG Prod.snd w_X8_firstOf_R (I, J, ri, rj, rq) (g_X8_firstOf_R_L2 a0 I J ri rj rq n_144 x_127) := by
  intro n_144
  induction n_144 with
  | zero => intros; exact fv_rt rfl
  | succ n_144 ih =>
    intro x_127
    rw [g_X8_firstOf_R_L2_e]
    refine fg_ap (fun y_150 => ?_)
    refine fg_if ?_ ?_
    · exact fv_rt rfl
    · refine fg_ap (fun x_161 => ?_)
      refine fg_if ?_ ?_
      · exact fv_rt rfl
      · refine fg_ap (fun x_166 => ?_)
        exact ih _
theorem g_X8_firstOf_R_f {a0 : Int32} {I : Nat → Int32} {J : Nat → Int64} {ri : Nat → Nat → Int32} {rj : Nat → Nat → Int64} {rq : Nat → Nat → Option Nat}  : FRG Prod.snd w_X8_firstOf_R (I, J, ri, rj, rq) (g_X8_firstOf_R  a0 I J ri rj rq) := by
  rw [g_X8_firstOf_R_e]
  exact g_X8_firstOf_R_L2_f  _ _


def w_X4_expectSemicolon : wS := ([129, 130], [], [], [], [])
theorem g_X4_expectSemicolon_f {I : Nat → Int32} {J : Nat → Int64} {ri : Nat → Nat → Int32} {rj : Nat → Nat → Int64} {rq : Nat → Nat → Option Nat}  : FRG id w_X4_expectSemicolon (I, J, ri, rj, rq) (g_X4_expectSemicolon  I J ri rj rq) := by
  rw [g_X4_expectSemicolon_e]
  refine fg_ap (fun y_2 => ?_)
  refine fg_if ?_ ?_
  · exact fv_rt rfl
  · refine fg_bV g_X4_refuse_f rfl (fun I_12 J_z1 ri_z1 rj_z1 rq_z1 h_1 => ?_)
    rw [fe_J h_1, fe_ri h_1, fe_rj h_1, fe_rq h_1]
    exact fv_rt rfl

def w_X4_readNumber : wS := ([129, 130, 132, 194, 195, 196, 197], [], [259], [], [])
theorem g_X4_readNumber_f {a0 : Int32} {I : Nat → Int32} {J : Nat → Int64} {ri : Nat → Nat → Int32} {rj : Nat → Nat → Int64} {rq : Nat → Nat → Option Nat}  : FRG id w_X4_readNumber (I, J, ri, rj, rq) (g_X4_readNumber  a0 I J ri rj rq) := by
  rw [g_X4_readNumber_e]
  refine fg_bV g_X6_advance_f rfl (fun I_3 J_z1 ri_z1 rj_z1 rq_z1 h_1 => ?_)
  rw [fe_J h_1, fe_ri h_1, fe_rj h_1, fe_rq h_1]
  refine fg_ap (fun y_16 => ?_)
  refine fg_if ?_ ?_
  · refine fg_ap (fun y_23 => ?_)
    refine fg_if ?_ ?_
    · refine fg_bV g_X4_emit_f rfl (fun I_32 J_z2 ri_33 rj_z2 rq_z2 h_2 => ?_)
      rw [fe_J h_2, fe_rj h_2, fe_rq h_2]
      refine fg_bV g_X6_advance_f rfl (fun I_49 J_z3 ri_z3 rj_z3 rq_z3 h_3 => ?_)
      rw [fe_J h_3, fe_ri h_3, fe_rj h_3, fe_rq h_3]
      refine fg_bV g_X4_expectSemicolon_f rfl (fun I_64 J_z4 ri_z4 rj_z4 rq_z4 h_4 => ?_)
      rw [fe_J h_4, fe_ri h_4, fe_rj h_4, fe_rq h_4]
      exact fv_rt rfl
    · refine fg_bV g_X4_refuse_f rfl (fun I_81 J_z5 ri_z5 rj_z5 rq_z5 h_5 => ?_)
      rw [fe_J h_5, fe_ri h_5, fe_rj h_5, fe_rq h_5]
      exact fv_rt rfl
  · refine fg_bV g_X4_refuse_f rfl (fun I_96 J_z6 ri_z6 rj_z6 rq_z6 h_6 => ?_)
    rw [fe_J h_6, fe_ri h_6, fe_rj h_6, fe_rq h_6]
    exact fv_rt rfl

def w_X4_readKey : wS := ([129, 130, 132, 194, 195, 196, 197], [], [259], [], [])
theorem g_X4_readKey_f {a0 : Int32} {I : Nat → Int32} {J : Nat → Int64} {ri : Nat → Nat → Int32} {rj : Nat → Nat → Int64} {rq : Nat → Nat → Option Nat}  : FRG id w_X4_readKey (I, J, ri, rj, rq) (g_X4_readKey  a0 I J ri rj rq) := by
  rw [g_X4_readKey_e]
  refine fg_ap (fun y_1 => ?_)
  refine fg_if ?_ ?_
  · refine fg_if ?_ ?_
    · refine fg_bV g_X6_advance_f rfl (fun I_137 J_z1 ri_z1 rj_z1 rq_z1 h_1 => ?_)
      rw [fe_J h_1, fe_ri h_1, fe_rj h_1, fe_rq h_1]
      refine fg_ap (fun y_150 => ?_)
      refine fg_ap (fun x_151 => ?_)
      refine fg_if ?_ ?_
      · refine fg_bV g_X4_refuse_f rfl (fun I_194 J_z2 ri_z2 rj_z2 rq_z2 h_2 => ?_)
        rw [fe_J h_2, fe_ri h_2, fe_rj h_2, fe_rq h_2]
        refine fg_ap (fun y_207 => ?_)
        refine fg_ap (fun x_208 => ?_)
        refine fg_bV g_X4_emit_f rfl (fun I_211 J_z3 ri_212 rj_z3 rq_z3 h_3 => ?_)
        rw [fe_J h_3, fe_rj h_3, fe_rq h_3]
        exact fv_rt rfl
      · refine fg_ap (fun x_170 => ?_)
        refine fg_bV g_X4_emit_f rfl (fun I_174 J_z4 ri_175 rj_z4 rq_z4 h_4 => ?_)
        rw [fe_J h_4, fe_rj h_4, fe_rq h_4]
        exact fv_rt rfl
    · refine fg_bV g_X4_refuse_f rfl (fun I_230 J_z5 ri_z5 rj_z5 rq_z5 h_5 => ?_)
      rw [fe_J h_5, fe_ri h_5, fe_rj h_5, fe_rq h_5]
      refine fg_ap (fun y_244 => ?_)
      refine fg_ap (fun x_245 => ?_)
      refine fg_bV g_X4_emit_f rfl (fun I_249 J_z6 ri_250 rj_z6 rq_z6 h_6 => ?_)
      rw [fe_J h_6, fe_rj h_6, fe_rq h_6]
      exact fv_rt rfl
  · refine fg_ap (fun x_8 => ?_)
    refine fg_if ?_ ?_
    · refine fg_bV g_X4_refuse_f rfl (fun I_93 J_z7 ri_z7 rj_z7 rq_z7 h_7 => ?_)
      rw [fe_J h_7, fe_ri h_7, fe_rj h_7, fe_rq h_7]
      refine fg_ap (fun y_106 => ?_)
      refine fg_bV g_X4_emit_f rfl (fun I_109 J_z8 ri_110 rj_z8 rq_z8 h_8 => ?_)
      rw [fe_J h_8, fe_rj h_8, fe_rq h_8]
      exact fv_rt rfl
    · refine fg_if ?_ ?_
      · refine fg_bV g_X4_emit_f rfl (fun I_37 J_z9 ri_38 rj_z9 rq_z9 h_9 => ?_)
        rw [fe_J h_9, fe_rj h_9, fe_rq h_9]
        exact fv_rt rfl
      · refine fg_bV g_X4_refuse_f rfl (fun I_56 J_z10 ri_z10 rj_z10 rq_z10 h_10 => ?_)
        rw [fe_J h_10, fe_ri h_10, fe_rj h_10, fe_rq h_10]
        refine fg_ap (fun y_70 => ?_)
        refine fg_bV g_X4_emit_f rfl (fun I_73 J_z11 ri_74 rj_z11 rq_z11 h_11 => ?_)
        rw [fe_J h_11, fe_rj h_11, fe_rq h_11]
        exact fv_rt rfl

def w_X4_readKeys : wS := ([129, 130, 132, 194, 195, 196, 197], [], [259], [], [])
theorem g_X4_readKeys_L4_f {J : Nat → Int64} {rj : Nat → Nat → Int64} {rq : Nat → Nat → Option Nat}  : ∀ (n_777 : Nat) (x_650 : Int32) (x_651 : Int32) (I_652 : Nat → Int32) (ri_653 : Nat → Nat → Int32), FRG id w_X4_readKeys (I_652, J, ri_653, rj, rq) (g_X4_readKeys_L4 J rj rq n_777 x_650 x_651 I_652 ri_653) := by
  intro n_777
  induction n_777 with
  | zero => intros; exact fv_rt rfl
  | succ n_777 ih =>
    intro x_650 x_651 I_652 ri_653
    rw [g_X4_readKeys_L4_e]
    refine fg_if ?_ ?_
    · refine fg_bV g_X4_expectSemicolon_f rfl (fun I_797 J_z1 ri_z1 rj_z1 rq_z1 h_1 => ?_)
      rw [fe_J h_1, fe_ri h_1, fe_rj h_1, fe_rq h_1]
      exact fv_rt rfl
    · refine fg_if ?_ ?_
      · refine fg_bV g_X4_expectSemicolon_f rfl (fun I_820 J_z2 ri_z2 rj_z2 rq_z2 h_2 => ?_)
        rw [fe_J h_2, fe_ri h_2, fe_rj h_2, fe_rq h_2]
        exact fv_rt rfl
      · refine fg_ap (fun y_834 => ?_)
        refine fg_if ?_ ?_
        · refine fg_bV g_X6_advance_f rfl (fun I_858 J_z3 ri_z3 rj_z3 rq_z3 h_3 => ?_)
          rw [fe_J h_3, fe_ri h_3, fe_rj h_3, fe_rq h_3]
          refine fg_bV g_X4_readKey_f rfl (fun I_873 J_z4 ri_874 rj_z4 rq_z4 h_4 => ?_)
          rw [fe_J h_4, fe_rj h_4, fe_rq h_4]
          refine fg_ap (fun x_885 => ?_)
          refine fg_ap (fun y_887 => ?_)
          refine fg_if ?_ ?_
          · refine fg_bV g_X6_advance_f rfl (fun I_905 J_z5 ri_z5 rj_z5 rq_z5 h_5 => ?_)
            rw [fe_J h_5, fe_ri h_5, fe_rj h_5, fe_rq h_5]
            refine fg_ap (fun y_918 => ?_)
            refine fg_if ?_ ?_
            · exact ih _ _ _ _
            · exact ih _ _ _ _
          · refine fg_ap (fun y_893 => ?_)
            refine fg_if ?_ ?_
            · exact ih _ _ _ _
            · exact ih _ _ _ _
        · refine fg_bV g_X4_expectSemicolon_f rfl (fun I_842 J_z6 ri_z6 rj_z6 rq_z6 h_6 => ?_)
          rw [fe_J h_6, fe_ri h_6, fe_rj h_6, fe_rq h_6]
          exact fv_rt rfl
theorem g_X4_readKeys_f {I : Nat → Int32} {J : Nat → Int64} {ri : Nat → Nat → Int32} {rj : Nat → Nat → Int64} {rq : Nat → Nat → Option Nat}  : FRG id w_X4_readKeys (I, J, ri, rj, rq) (g_X4_readKeys  I J ri rj rq) := by
  rw [g_X4_readKeys_e]
  exact g_X4_readKeys_L4_f  _ _ _ _ _

def w_X4_readClause : wS := ([129, 130, 132, 134, 135, 136, 137, 138, 139, 194, 195, 196, 197, 256], [], [133, 257, 258, 259], [], [])
theorem g_X4_readClause_f {I : Nat → Int32} {J : Nat → Int64} {ri : Nat → Nat → Int32} {rj : Nat → Nat → Int64} {rq : Nat → Nat → Option Nat}  : FRG id w_X4_readClause (I, J, ri, rj, rq) (g_X4_readClause  I J ri rj rq) := by
  rw [g_X4_readClause_e]
  refine fg_ap (fun y_1 => ?_)
  refine fg_if ?_ ?_
  · refine fg_if ?_ ?_
    · refine fg_ap (fun y_17 => ?_)
      refine fg_if ?_ ?_
      · refine fg_ri rfl (fun r_26 => ?_)
        refine fg_ap (fun x_27 => ?_)
        refine fg_I rfl (fun I_29 => ?_)
        refine fg_bV g_X4_readEither_f rfl (fun I_43 J_z1 ri_44 rj_z1 rq_z1 h_1 => ?_)
        rw [fe_J h_1, fe_rj h_1, fe_rq h_1]
        refine fg_ap (fun y_56 => ?_)
        refine fg_ap (fun y_58 => ?_)
        refine fg_ri rfl (fun r_59 => ?_)
        exact fv_rt rfl
      · refine fg_bV g_X4_refuse_f rfl (fun I_64 J_z2 ri_z2 rj_z2 rq_z2 h_2 => ?_)
        rw [fe_J h_2, fe_ri h_2, fe_rj h_2, fe_rq h_2]
        exact fv_rt rfl
    · refine fg_bI g_X8_firstOf_R_f rfl (fun x_79 I_z3 J_z3 ri_z3 rj_z3 rq_z3 h_3 => ?_)
      rw [fe_I h_3, fe_J h_3, fe_ri h_3, fe_rj h_3, fe_rq h_3]
      refine fg_if ?_ ?_
      · refine fg_ap (fun y_95 => ?_)
        refine fg_if ?_ ?_
        · refine fg_ri rfl (fun r_104 => ?_)
          refine fg_ap (fun x_105 => ?_)
          refine fg_I rfl (fun I_107 => ?_)
          refine fg_if ?_ ?_
          · refine fg_ap (fun x_125 => ?_)
            refine fg_bV g_X4_readNumber_f rfl (fun I_134 J_z4 ri_135 rj_z4 rq_z4 h_4 => ?_)
            rw [fe_J h_4, fe_rj h_4, fe_rq h_4]
            refine fg_ap (fun y_148 => ?_)
            refine fg_ap (fun y_150 => ?_)
            refine fg_ri rfl (fun r_151 => ?_)
            exact fv_rt rfl
          · refine fg_bV g_X4_readKeys_f rfl (fun I_156 J_z5 ri_157 rj_z5 rq_z5 h_5 => ?_)
            rw [fe_J h_5, fe_rj h_5, fe_rq h_5]
            refine fg_ap (fun y_170 => ?_)
            refine fg_ap (fun y_172 => ?_)
            refine fg_ri rfl (fun r_173 => ?_)
            exact fv_rt rfl
        · refine fg_bV g_X4_refuse_f rfl (fun I_179 J_z6 ri_z6 rj_z6 rq_z6 h_6 => ?_)
          rw [fe_J h_6, fe_ri h_6, fe_rj h_6, fe_rq h_6]
          exact fv_rt rfl
      · refine fg_bV g_X4_refuse_f rfl (fun I_196 J_z7 ri_z7 rj_z7 rq_z7 h_7 => ?_)
        rw [fe_J h_7, fe_ri h_7, fe_rj h_7, fe_rq h_7]
        exact fv_rt rfl
  · refine fg_bV g_X4_refuse_f rfl (fun I_213 J_z8 ri_z8 rj_z8 rq_z8 h_8 => ?_)
    rw [fe_J h_8, fe_ri h_8, fe_rj h_8, fe_rq h_8]
    exact fv_rt rfl







def w_X12_see_x : wS := ([], [], [], [], [])
theorem g_X12_see_x_f {a0 : Int32} {I : Nat → Int32} {J : Nat → Int64} {ri : Nat → Nat → Int32} {rj : Nat → Nat → Int64} {rq : Nat → Nat → Option Nat}  : FRG Prod.snd w_X12_see_x (I, J, ri, rj, rq) (g_X12_see_x  a0 I J ri rj rq) := by
  rw [g_X12_see_x_e]
  refine fg_ap (fun y_2 => ?_)
  refine fg_if ?_ ?_
  · exact fv_rt rfl
  · refine fg_ap (fun x_12 => ?_)
    exact fv_rt rfl

def w_X12_nextToken_x : wS := ([391, 392, 393, 394], [395], [], [], [])
theorem g_X12_nextToken_x_K343_f {J : Nat → Int64} {ri : Nat → Nat → Int32} {rj : Nat → Nat → Int64} {rq : Nat → Nat → Option Nat} {x_4475 : Int32} {I_4533 : Nat → Int32}  : FRG id w_X12_nextToken_x (I_4533, J, ri, rj, rq) (g_X12_nextToken_x_K343 J ri rj rq x_4475 I_4533 ) := by
  rw [g_X12_nextToken_x_K343_e]
  refine fg_I rfl (fun I_4825 => ?_)
  refine fg_if ?_ ?_
  · refine fg_ap (fun y_4837 => ?_)
    refine fg_bI g_X12_see_x_f rfl (fun x_4838 I_z1 J_z1 ri_z1 rj_z1 rq_z1 h_1 => ?_)
    rw [fe_I h_1, fe_J h_1, fe_ri h_1, fe_rj h_1, fe_rq h_1]
    refine fg_if ?_ ?_
    · refine fg_ap (fun x_4856 => ?_)
      refine fg_I rfl (fun I_4858 => ?_)
      refine fg_I rfl (fun I_4868 => ?_)
      exact fv_rt rfl
    · exact fv_rt rfl
  · refine fg_if ?_ ?_
    · refine fg_ap (fun y_4882 => ?_)
      refine fg_bI g_X12_see_x_f rfl (fun x_4883 I_z2 J_z2 ri_z2 rj_z2 rq_z2 h_2 => ?_)
      rw [fe_I h_2, fe_J h_2, fe_ri h_2, fe_rj h_2, fe_rq h_2]
      refine fg_if ?_ ?_
      · refine fg_ap (fun x_4901 => ?_)
        refine fg_I rfl (fun I_4903 => ?_)
        refine fg_I rfl (fun I_4912 => ?_)
        exact fv_rt rfl
      · exact fv_rt rfl
    · exact fv_rt rfl
theorem g_X12_nextToken_x_K332_f {J : Nat → Int64} {ri : Nat → Nat → Int32} {rj : Nat → Nat → Int64} {rq : Nat → Nat → Option Nat} {x_4475 : Int32} {I_4533 : Nat → Int32}  : FRG id w_X12_nextToken_x (I_4533, J, ri, rj, rq) (g_X12_nextToken_x_K332 J ri rj rq x_4475 I_4533 ) := by
  rw [g_X12_nextToken_x_K332_e]
  exact g_X12_nextToken_x_K343_f 
theorem g_X12_nextToken_x_K343_2_f {J : Nat → Int64} {ri : Nat → Nat → Int32} {rj : Nat → Nat → Int64} {rq : Nat → Nat → Option Nat} {x_4475 : Int32} {I_4533 : Nat → Int32}  : FRG id w_X12_nextToken_x (I_4533, J, ri, rj, rq) (g_X12_nextToken_x_K343_2 J ri rj rq x_4475 I_4533 ) := by
  rw [g_X12_nextToken_x_K343_2_e]
  refine fg_I rfl (fun I_5002 => ?_)
  refine fg_if ?_ ?_
  · refine fg_ap (fun y_5014 => ?_)
    refine fg_bI g_X12_see_x_f rfl (fun x_5015 I_z3 J_z3 ri_z3 rj_z3 rq_z3 h_3 => ?_)
    rw [fe_I h_3, fe_J h_3, fe_ri h_3, fe_rj h_3, fe_rq h_3]
    refine fg_if ?_ ?_
    · refine fg_ap (fun x_5033 => ?_)
      refine fg_I rfl (fun I_5035 => ?_)
      refine fg_I rfl (fun I_5045 => ?_)
      exact fv_rt rfl
    · exact fv_rt rfl
  · refine fg_if ?_ ?_
    · refine fg_ap (fun y_5061 => ?_)
      refine fg_bI g_X12_see_x_f rfl (fun x_5062 I_z4 J_z4 ri_z4 rj_z4 rq_z4 h_4 => ?_)
      rw [fe_I h_4, fe_J h_4, fe_ri h_4, fe_rj h_4, fe_rq h_4]
      refine fg_if ?_ ?_
      · refine fg_ap (fun x_5080 => ?_)
        refine fg_I rfl (fun I_5082 => ?_)
        refine fg_I rfl (fun I_5091 => ?_)
        exact fv_rt rfl
      · exact fv_rt rfl
    · exact fv_rt rfl
theorem g_X12_nextToken_x_K332_2_f {J : Nat → Int64} {ri : Nat → Nat → Int32} {rj : Nat → Nat → Int64} {rq : Nat → Nat → Option Nat} {x_4475 : Int32} {I_4533 : Nat → Int32}  : FRG id w_X12_nextToken_x (I_4533, J, ri, rj, rq) (g_X12_nextToken_x_K332_2 J ri rj rq x_4475 I_4533 ) := by
  rw [g_X12_nextToken_x_K332_2_e]
  exact g_X12_nextToken_x_K343_2_f 
theorem g_X12_nextToken_x_K327_f {J : Nat → Int64} {ri : Nat → Nat → Int32} {rj : Nat → Nat → Int64} {rq : Nat → Nat → Option Nat} {x_4475 : Int32} {I_4533 : Nat → Int32}  : FRG id w_X12_nextToken_x (I_4533, J, ri, rj, rq) (g_X12_nextToken_x_K327 J ri rj rq x_4475 I_4533 ) := by
  rw [g_X12_nextToken_x_K327_e]
  exact g_X12_nextToken_x_K332_2_f 
theorem g_X12_nextToken_x_L161_f {ri : Nat → Nat → Int32} {rj : Nat → Nat → Int64} {rq : Nat → Nat → Option Nat}  : ∀ (n_5522 : Nat) (I_5439 : Nat → Int32) (J_5440 : Nat → Int64), FRG id w_X12_nextToken_x (I_5439, J_5440, ri, rj, rq) (g_X12_nextToken_x_L161 ri rj rq n_5522 I_5439 J_5440) := by
  intro n_5522
  induction n_5522 with
  | zero => intros; exact fv_rt rfl
  | succ n_5522 ih =>
    intro I_5439 J_5440
    rw [g_X12_nextToken_x_L161_e]
    refine fg_ap (fun y_5528 => ?_)
    refine fg_bI g_X12_see_x_f rfl (fun x_5529 I_z5 J_z5 ri_z5 rj_z5 rq_z5 h_5 => ?_)
    rw [fe_I h_5, fe_J h_5, fe_ri h_5, fe_rj h_5, fe_rq h_5]
    refine fg_ap (fun x_5540 => ?_)
    refine fg_if ?_ ?_
    · refine fg_ap (fun y_5560 => ?_)
      refine fg_ap (fun x_5561 => ?_)
      refine fg_if ?_ ?_
      · exact fv_rt rfl
      · refine fg_J rfl (fun J_5572 => ?_)
        exact fv_rt rfl
    · refine fg_ap (fun y_5578 => ?_)
      refine fg_ap (fun x_5579 => ?_)
      refine fg_if ?_ ?_
      · refine fg_ap (fun x_5589 => ?_)
        refine fg_I rfl (fun I_5591 => ?_)
        exact ih _ _
      · refine fg_ap (fun y_5598 => ?_)
        refine fg_ap (fun x_5599 => ?_)
        refine fg_bI g_X12_see_x_f rfl (fun x_5600 I_z6 J_z6 ri_z6 rj_z6 rq_z6 h_6 => ?_)
        rw [fe_I h_6, fe_J h_6, fe_ri h_6, fe_rj h_6, fe_rq h_6]
        refine fg_ap (fun x_5610 => ?_)
        refine fg_ap (fun x_5611 => ?_)
        refine fg_J rfl (fun J_5612 => ?_)
        refine fg_ap (fun x_5614 => ?_)
        refine fg_I rfl (fun I_5616 => ?_)
        exact ih _ _
theorem g_X12_nextToken_x_L85_f {J : Nat → Int64} {ri : Nat → Nat → Int32} {rj : Nat → Nat → Int64} {rq : Nat → Nat → Option Nat}  : ∀ (n_5922 : Nat) (I_5848 : Nat → Int32), FRG id w_X12_nextToken_x (I_5848, J, ri, rj, rq) (g_X12_nextToken_x_L85 J ri rj rq n_5922 I_5848) := by
  intro n_5922
  induction n_5922 with
  | zero => intros; exact fv_rt rfl
  | succ n_5922 ih =>
    intro I_5848
    rw [g_X12_nextToken_x_L85_e]
    refine fg_ap (fun y_5928 => ?_)
    refine fg_bI g_X12_see_x_f rfl (fun x_5929 I_z7 J_z7 ri_z7 rj_z7 rq_z7 h_7 => ?_)
    rw [fe_I h_7, fe_J h_7, fe_ri h_7, fe_rj h_7, fe_rq h_7]
    refine fg_ap (fun x_5940 => ?_)
    refine fg_if ?_ ?_
    · exact fv_rt rfl
    · refine fg_ap (fun y_5963 => ?_)
      refine fg_if ?_ ?_
      · refine fg_ap (fun x_5972 => ?_)
        refine fg_I rfl (fun I_5974 => ?_)
        exact ih _
      · refine fg_ap (fun x_5981 => ?_)
        refine fg_bI g_X12_see_x_f rfl (fun x_5982 I_z8 J_z8 ri_z8 rj_z8 rq_z8 h_8 => ?_)
        rw [fe_I h_8, fe_J h_8, fe_ri h_8, fe_rj h_8, fe_rq h_8]
        refine fg_ap (fun x_5992 => ?_)
        refine fg_ap (fun x_5993 => ?_)
        refine fg_I rfl (fun I_5994 => ?_)
        refine fg_ap (fun y_6000 => ?_)
        refine fg_ap (fun x_6002 => ?_)
        refine fg_I rfl (fun I_6004 => ?_)
        exact ih _
theorem g_X12_nextToken_x_L0_f {J : Nat → Int64} {ri : Nat → Nat → Int32} {rj : Nat → Nat → Int64} {rq : Nat → Nat → Option Nat}  : ∀ (n_4421 : Nat) (I_3315 : Nat → Int32), FRG id w_X12_nextToken_x (I_3315, J, ri, rj, rq) (g_X12_nextToken_x_L0 J ri rj rq n_4421 I_3315) := by
  intro n_4421
  induction n_4421 with
  | zero => intros; exact fv_rt rfl
  | succ n_4421 ih =>
    intro I_3315
    rw [g_X12_nextToken_x_L0_e]
    refine fg_ap (fun y_4427 => ?_)
    refine fg_bI g_X12_see_x_f rfl (fun x_4428 I_z9 J_z9 ri_z9 rj_z9 rq_z9 h_9 => ?_)
    rw [fe_I h_9, fe_J h_9, fe_ri h_9, fe_rj h_9, fe_rq h_9]
    refine fg_if ?_ ?_
    · refine fg_ap (fun x_4445 => ?_)
      refine fg_I rfl (fun I_4447 => ?_)
      exact ih _
    · refine fg_bI g_X12_see_x_f rfl (fun x_4453 I_z10 J_z10 ri_z10 rj_z10 rq_z10 h_10 => ?_)
      rw [fe_I h_10, fe_J h_10, fe_ri h_10, fe_rj h_10, fe_rq h_10]
      refine fg_if ?_ ?_
      · refine fg_ap (fun x_6020 => ?_)
        refine fg_I rfl (fun I_6022 => ?_)
        exact ih _
      · refine fg_I rfl (fun I_4468 => ?_)
        refine fg_ap (fun y_4474 => ?_)
        refine fg_bI g_X12_see_x_f rfl (fun x_4475 I_z11 J_z11 ri_z11 rj_z11 rq_z11 h_11 => ?_)
        rw [fe_I h_11, fe_J h_11, fe_ri h_11, fe_rj h_11, fe_rq h_11]
        refine fg_if ?_ ?_
        · refine fg_ap (fun x_4492 => ?_)
          refine fg_if ?_ ?_
          · refine fg_ap (fun x_4511 => ?_)
            refine fg_if ?_ ?_
            · refine fg_ap (fun x_4531 => ?_)
              refine fg_I rfl (fun I_4533 => ?_)
              refine fg_if ?_ ?_
              · exact g_X12_nextToken_x_K327_f 
              · refine fg_if ?_ ?_
                · exact g_X12_nextToken_x_K327_f 
                · refine fg_if ?_ ?_
                  · exact g_X12_nextToken_x_K327_f 
                  · refine fg_if ?_ ?_
                    · exact g_X12_nextToken_x_K327_f 
                    · refine fg_if ?_ ?_
                      · exact g_X12_nextToken_x_K327_f 
                      · refine fg_if ?_ ?_
                        · exact g_X12_nextToken_x_K327_f 
                        · refine fg_if ?_ ?_
                          · exact g_X12_nextToken_x_K327_f 
                          · refine fg_if ?_ ?_
                            · exact g_X12_nextToken_x_K327_f 
                            · refine fg_if ?_ ?_
                              · exact g_X12_nextToken_x_K327_f 
                              · refine fg_if ?_ ?_
                                · exact g_X12_nextToken_x_K327_f 
                                · refine fg_if ?_ ?_
                                  · exact g_X12_nextToken_x_K327_f 
                                  · refine fg_if ?_ ?_
                                    · exact g_X12_nextToken_x_K327_f 
                                    · exact g_X12_nextToken_x_K332_f 
            · refine fg_I rfl (fun I_5189 => ?_)
              refine fg_J rfl (fun J_5194 => ?_)
              refine fg_ap (fun y_5621 => ?_)
              exact g_X12_nextToken_x_L161_f  _ _ _
          · refine fg_I rfl (fun I_5626 => ?_)
            refine fg_I rfl (fun I_5631 => ?_)
            refine fg_ap (fun y_6009 => ?_)
            exact g_X12_nextToken_x_L85_f  _ _
        · refine fg_I rfl (fun I_6012 => ?_)
          exact fv_rt rfl
theorem g_X12_nextToken_x_f {I : Nat → Int32} {J : Nat → Int64} {ri : Nat → Nat → Int32} {rj : Nat → Nat → Int64} {rq : Nat → Nat → Option Nat}  : FRG id w_X12_nextToken_x (I, J, ri, rj, rq) (g_X12_nextToken_x  I J ri rj rq) := by
  rw [g_X12_nextToken_x_e]
  refine fg_ap (fun y_6027 => ?_)
  exact g_X12_nextToken_x_L0_f  _ _

def w_X12_isWord_x : wS := ([], [], [], [], [])
theorem g_X12_isWord_x_f {a0 : Int64} {I : Nat → Int32} {J : Nat → Int64} {ri : Nat → Nat → Int32} {rj : Nat → Nat → Int64} {rq : Nat → Nat → Option Nat}  : FRG Prod.snd w_X12_isWord_x (I, J, ri, rj, rq) (g_X12_isWord_x  a0 I J ri rj rq) := by
  rw [g_X12_isWord_x_e]
  refine fg_ap (fun y_1 => ?_)
  refine fg_if ?_ ?_
  · refine fg_ap (fun y_9 => ?_)
    refine fg_ap (fun x_10 => ?_)
    refine fg_if ?_ ?_
    · exact fv_rt rfl
    · exact fv_rt rfl
  · exact fv_rt rfl

def w_X12_nameOf_x : wS := ([], [], [], [], [])
theorem g_X12_nameOf_x_f {I : Nat → Int32} {J : Nat → Int64} {ri : Nat → Nat → Int32} {rj : Nat → Nat → Int64} {rq : Nat → Nat → Option Nat}  : FRG Prod.snd w_X12_nameOf_x (I, J, ri, rj, rq) (g_X12_nameOf_x  I J ri rj rq) := by
  rw [g_X12_nameOf_x_e]
  refine fg_ap (fun y_1 => ?_)
  refine fg_if ?_ ?_
  · refine fg_ap (fun y_8 => ?_)
    refine fg_ap (fun x_9 => ?_)
    refine fg_ap (fun x_16 => ?_)
    refine fg_if ?_ ?_
    · exact fv_rt rfl
    · refine fg_ap (fun x_22 => ?_)
      refine fg_ap (fun x_29 => ?_)
      refine fg_if ?_ ?_
      · exact fv_rt rfl
      · refine fg_ap (fun x_35 => ?_)
        refine fg_ap (fun x_42 => ?_)
        refine fg_if ?_ ?_
        · exact fv_rt rfl
        · refine fg_ap (fun x_48 => ?_)
          refine fg_ap (fun x_55 => ?_)
          refine fg_if ?_ ?_
          · exact fv_rt rfl
          · refine fg_ap (fun x_61 => ?_)
            refine fg_ap (fun x_68 => ?_)
            refine fg_if ?_ ?_
            · exact fv_rt rfl
            · refine fg_ap (fun x_74 => ?_)
              refine fg_ap (fun x_81 => ?_)
              refine fg_if ?_ ?_
              · exact fv_rt rfl
              · exact fv_rt rfl
  · exact fv_rt rfl

def w_X12_emit : wS := ([398], [], [384], [], [])
theorem g_X12_emit_f {a0 : Int32} {a1 : Int32} {I : Nat → Int32} {J : Nat → Int64} {ri : Nat → Nat → Int32} {rj : Nat → Nat → Int64} {rq : Nat → Nat → Option Nat}  : FRG id w_X12_emit (I, J, ri, rj, rq) (g_X12_emit  a0 a1 I J ri rj rq) := by
  rw [g_X12_emit_e]
  refine fg_ap (fun y_2 => ?_)
  refine fg_ap (fun x_3 => ?_)
  refine fg_ap (fun y_5 => ?_)
  refine fg_ap (fun x_6 => ?_)
  refine fg_ap (fun x_8 => ?_)
  refine fg_ri rfl (fun r_10 => ?_)
  refine fg_ap (fun x_11 => ?_)
  refine fg_ap (fun x_13 => ?_)
  refine fg_ap (fun x_15 => ?_)
  refine fg_ap (fun x_17 => ?_)
  refine fg_ri rfl (fun r_19 => ?_)
  refine fg_ap (fun x_20 => ?_)
  refine fg_I rfl (fun I_22 => ?_)
  exact fv_rt rfl

def w_X12_push : wS := ([401], [], [400], [], [])
theorem g_X12_push_f {a0 : Int32} {I : Nat → Int32} {J : Nat → Int64} {ri : Nat → Nat → Int32} {rj : Nat → Nat → Int64} {rq : Nat → Nat → Option Nat}  : FRG id w_X12_push (I, J, ri, rj, rq) (g_X12_push  a0 I J ri rj rq) := by
  rw [g_X12_push_e]
  refine fg_ap (fun y_1 => ?_)
  refine fg_ri rfl (fun r_2 => ?_)
  refine fg_ap (fun x_3 => ?_)
  refine fg_I rfl (fun I_5 => ?_)
  exact fv_rt rfl

def w_X12_whole : wS := ([398, 401, 402, 403], [], [384], [], [])
theorem g_X12_whole_L5_f {J : Nat → Int64} {rj : Nat → Nat → Int64} {rq : Nat → Nat → Option Nat}  : ∀ (n_269 : Nat) (I_203 : Nat → Int32) (ri_204 : Nat → Nat → Int32), FRG id w_X12_whole (I_203, J, ri_204, rj, rq) (g_X12_whole_L5 J rj rq n_269 I_203 ri_204) := by
  intro n_269
  induction n_269 with
  | zero => intros; exact fv_rt rfl
  | succ n_269 ih =>
    intro I_203 ri_204
    rw [g_X12_whole_L5_e]
    refine fg_ap (fun y_277 => ?_)
    refine fg_if ?_ ?_
    · exact fv_rt rfl
    · refine fg_ap (fun x_287 => ?_)
      refine fg_ap (fun x_289 => ?_)
      refine fg_if ?_ ?_
      · refine fg_ap (fun x_298 => ?_)
        refine fg_I rfl (fun I_300 => ?_)
        refine fg_ap (fun y_309 => ?_)
        refine fg_ap (fun x_311 => ?_)
        refine fg_I rfl (fun I_313 => ?_)
        refine fg_bV g_X12_emit_f rfl (fun I_324 J_z1 ri_325 rj_z1 rq_z1 h_1 => ?_)
        rw [fe_J h_1, fe_rj h_1, fe_rq h_1]
        exact ih _ _
      · exact fv_rt rfl
theorem g_X12_whole_f {I : Nat → Int32} {J : Nat → Int64} {ri : Nat → Nat → Int32} {rj : Nat → Nat → Int64} {rq : Nat → Nat → Option Nat}  : FRG id w_X12_whole (I, J, ri, rj, rq) (g_X12_whole  I J ri rj rq) := by
  rw [g_X12_whole_e]
  refine fg_I rfl (fun I_1 => ?_)
  refine fg_ap (fun y_344 => ?_)
  exact g_X12_whole_L5_f  _ _ _

def w_X12_settle : wS := ([398, 401], [], [384], [], [])
theorem g_X12_settle_L0_f {a0 : Int32} {J : Nat → Int64} {rj : Nat → Nat → Int64} {rq : Nat → Nat → Option Nat}  : ∀ (n_385 : Nat) (I_309 : Nat → Int32) (ri_310 : Nat → Nat → Int32), FRG id w_X12_settle (I_309, J, ri_310, rj, rq) (g_X12_settle_L0 a0 J rj rq n_385 I_309 ri_310) := by
  intro n_385
  induction n_385 with
  | zero => intros; exact fv_rt rfl
  | succ n_385 ih =>
    intro I_309 ri_310
    rw [g_X12_settle_L0_e]
    refine fg_ap (fun y_397 => ?_)
    refine fg_if ?_ ?_
    · exact fv_rt rfl
    · refine fg_ap (fun x_407 => ?_)
      refine fg_ap (fun x_409 => ?_)
      refine fg_ap (fun x_411 => ?_)
      refine fg_if ?_ ?_
      · exact fv_rt rfl
      · refine fg_ap (fun x_444 => ?_)
        refine fg_I rfl (fun I_446 => ?_)
        refine fg_ap (fun y_456 => ?_)
        refine fg_ap (fun x_457 => ?_)
        refine fg_bV g_X12_emit_f rfl (fun I_461 J_z1 ri_462 rj_z1 rq_z1 h_1 => ?_)
        rw [fe_J h_1, fe_rj h_1, fe_rq h_1]
        exact ih _ _
theorem g_X12_settle_f {a0 : Int32} {I : Nat → Int32} {J : Nat → Int64} {ri : Nat → Nat → Int32} {rj : Nat → Nat → Int64} {rq : Nat → Nat → Option Nat}  : FRG id w_X12_settle (I, J, ri, rj, rq) (g_X12_settle  a0 I J ri rj rq) := by
  rw [g_X12_settle_e]
  refine fg_ap (fun y_2 => ?_)
  refine fg_if ?_ ?_
  · exact fv_rt rfl
  · refine fg_ap (fun x_12 => ?_)
    refine fg_ap (fun x_14 => ?_)
    refine fg_ap (fun x_16 => ?_)
    refine fg_if ?_ ?_
    · exact fv_rt rfl
    · refine fg_ap (fun x_49 => ?_)
      refine fg_I rfl (fun I_51 => ?_)
      refine fg_ap (fun y_61 => ?_)
      refine fg_ap (fun x_62 => ?_)
      refine fg_bV g_X12_emit_f rfl (fun I_66 J_z2 ri_67 rj_z2 rq_z2 h_2 => ?_)
      rw [fe_J h_2, fe_rj h_2, fe_rq h_2]
      refine fg_ap (fun y_481 => ?_)
      exact g_X12_settle_L0_f  _ _ _

def w_X12_hasParen : wS := ([], [], [], [], [])
theorem g_X12_hasParen_L2_f {I : Nat → Int32} {J : Nat → Int64} {ri : Nat → Nat → Int32} {rj : Nat → Nat → Int64} {rq : Nat → Nat → Option Nat}  : ∀ (n_360 : Nat) (x_341 : Int32), FRG Prod.snd w_X12_hasParen (I, J, ri, rj, rq) (g_X12_hasParen_L2 I J ri rj rq n_360 x_341) := by
  intro n_360
  induction n_360 with
  | zero => intros; exact fv_rt rfl
  | succ n_360 ih =>
    intro x_341
    rw [g_X12_hasParen_L2_e]
    refine fg_ap (fun y_366 => ?_)
    refine fg_if ?_ ?_
    · exact fv_rt rfl
    · refine fg_ap (fun x_376 => ?_)
      refine fg_if ?_ ?_
      · exact fv_rt rfl
      · refine fg_ap (fun x_385 => ?_)
        exact ih _
theorem g_X12_hasParen_f {I : Nat → Int32} {J : Nat → Int64} {ri : Nat → Nat → Int32} {rj : Nat → Nat → Int64} {rq : Nat → Nat → Option Nat}  : FRG Prod.snd w_X12_hasParen (I, J, ri, rj, rq) (g_X12_hasParen  I J ri rj rq) := by
  rw [g_X12_hasParen_e]
  exact g_X12_hasParen_L2_f  _ _

def w_X12_goesOn : wS := ([], [], [], [], [])
theorem g_X12_goesOn_f {I : Nat → Int32} {J : Nat → Int64} {ri : Nat → Nat → Int32} {rj : Nat → Nat → Int64} {rq : Nat → Nat → Option Nat}  : FRG Prod.snd w_X12_goesOn (I, J, ri, rj, rq) (g_X12_goesOn  I J ri rj rq) := by
  rw [g_X12_goesOn_e]
  refine fg_ap (fun y_1 => ?_)
  refine fg_if ?_ ?_
  · exact fv_rt rfl
  · refine fg_if ?_ ?_
    · exact fv_rt rfl
    · refine fg_if ?_ ?_
      · exact fv_rt rfl
      · refine fg_if ?_ ?_
        · exact fv_rt rfl
        · refine fg_if ?_ ?_
          · refine fg_bI g_X12_hasParen_f rfl (fun x_37 I_z1 J_z1 ri_z1 rj_z1 rq_z1 h_1 => ?_)
            rw [fe_I h_1, fe_J h_1, fe_ri h_1, fe_rj h_1, fe_rq h_1]
            refine fg_if ?_ ?_
            · exact fv_rt rfl
            · exact fv_rt rfl
          · exact fv_rt rfl

def w_X12_beginOne : wS := ([391, 392, 393, 394, 398, 401, 402, 403], [395], [384, 400], [], [])
theorem g_X12_beginOne_f {I : Nat → Int32} {J : Nat → Int64} {ri : Nat → Nat → Int32} {rj : Nat → Nat → Int64} {rq : Nat → Nat → Option Nat}  : FRG Prod.snd w_X12_beginOne (I, J, ri, rj, rq) (g_X12_beginOne  I J ri rj rq) := by
  rw [g_X12_beginOne_e]
  refine fg_ap (fun y_1 => ?_)
  refine fg_if ?_ ?_
  · refine fg_ap (fun y_469 => ?_)
    refine fg_if ?_ ?_
    · refine fg_bV g_X12_emit_f rfl (fun I_493 J_z1 ri_494 rj_z1 rq_z1 h_1 => ?_)
      rw [fe_J h_1, fe_rj h_1, fe_rq h_1]
      refine fg_bV g_X12_nextToken_x_f rfl (fun I_516 J_517 ri_z2 rj_z2 rq_z2 h_2 => ?_)
      rw [fe_ri h_2, fe_rj h_2, fe_rq h_2]
      refine fg_bV g_X12_whole_f rfl (fun I_537 J_z3 ri_538 rj_z3 rq_z3 h_3 => ?_)
      rw [fe_J h_3, fe_rj h_3, fe_rq h_3]
      exact fv_rt rfl
    · exact fv_rt rfl
  · refine fg_if ?_ ?_
    · refine fg_ap (fun y_23 => ?_)
      refine fg_bV g_X12_emit_f rfl (fun I_26 J_z4 ri_27 rj_z4 rq_z4 h_4 => ?_)
      rw [fe_J h_4, fe_rj h_4, fe_rq h_4]
      refine fg_bV g_X12_nextToken_x_f rfl (fun I_49 J_50 ri_z5 rj_z5 rq_z5 h_5 => ?_)
      rw [fe_ri h_5, fe_rj h_5, fe_rq h_5]
      refine fg_bV g_X12_whole_f rfl (fun I_70 J_z6 ri_71 rj_z6 rq_z6 h_6 => ?_)
      rw [fe_J h_6, fe_rj h_6, fe_rq h_6]
      exact fv_rt rfl
    · refine fg_bI g_X12_nameOf_x_f rfl (fun x_85 I_z7 J_z7 ri_z7 rj_z7 rq_z7 h_7 => ?_)
      rw [fe_I h_7, fe_J h_7, fe_ri h_7, fe_rj h_7, fe_rq h_7]
      refine fg_if ?_ ?_
      · refine fg_if ?_ ?_
        · refine fg_ap (fun y_107 => ?_)
          refine fg_if ?_ ?_
          · exact fv_rt rfl
          · refine fg_ap (fun x_114 => ?_)
            refine fg_I rfl (fun I_116 => ?_)
            refine fg_ap (fun y_126 => ?_)
            refine fg_bV g_X12_push_f rfl (fun I_134 J_z8 ri_135 rj_z8 rq_z8 h_8 => ?_)
            rw [fe_J h_8, fe_rj h_8, fe_rq h_8]
            refine fg_bV g_X12_nextToken_x_f rfl (fun I_156 J_157 ri_z9 rj_z9 rq_z9 h_9 => ?_)
            rw [fe_ri h_9, fe_rj h_9, fe_rq h_9]
            exact fv_rt rfl
        · refine fg_if ?_ ?_
          · refine fg_ap (fun y_184 => ?_)
            refine fg_if ?_ ?_
            · exact fv_rt rfl
            · refine fg_ap (fun x_191 => ?_)
              refine fg_I rfl (fun I_193 => ?_)
              refine fg_ap (fun y_203 => ?_)
              refine fg_bV g_X12_push_f rfl (fun I_210 J_z10 ri_211 rj_z10 rq_z10 h_10 => ?_)
              rw [fe_J h_10, fe_rj h_10, fe_rq h_10]
              refine fg_bV g_X12_nextToken_x_f rfl (fun I_232 J_233 ri_z11 rj_z11 rq_z11 h_11 => ?_)
              rw [fe_ri h_11, fe_rj h_11, fe_rq h_11]
              exact fv_rt rfl
          · exact fv_rt rfl
      · refine fg_if ?_ ?_
        · refine fg_ap (fun y_406 => ?_)
          refine fg_bV g_X12_emit_f rfl (fun I_409 J_z12 ri_410 rj_z12 rq_z12 h_12 => ?_)
          rw [fe_J h_12, fe_rj h_12, fe_rq h_12]
          refine fg_bV g_X12_nextToken_x_f rfl (fun I_432 J_433 ri_z13 rj_z13 rq_z13 h_13 => ?_)
          rw [fe_ri h_13, fe_rj h_13, fe_rq h_13]
          refine fg_bV g_X12_whole_f rfl (fun I_453 J_z14 ri_454 rj_z14 rq_z14 h_14 => ?_)
          rw [fe_J h_14, fe_rj h_14, fe_rq h_14]
          exact fv_rt rfl
        · refine fg_if ?_ ?_
          · refine fg_ap (fun y_338 => ?_)
            refine fg_bV g_X12_emit_f rfl (fun I_341 J_z15 ri_342 rj_z15 rq_z15 h_15 => ?_)
            rw [fe_J h_15, fe_rj h_15, fe_rq h_15]
            refine fg_bV g_X12_nextToken_x_f rfl (fun I_364 J_365 ri_z16 rj_z16 rq_z16 h_16 => ?_)
            rw [fe_ri h_16, fe_rj h_16, fe_rq h_16]
            refine fg_bV g_X12_whole_f rfl (fun I_385 J_z17 ri_386 rj_z17 rq_z17 h_17 => ?_)
            rw [fe_J h_17, fe_rj h_17, fe_rq h_17]
            exact fv_rt rfl
          · refine fg_bI g_X12_nameOf_x_f rfl (fun x_267 I_z18 J_z18 ri_z18 rj_z18 rq_z18 h_18 => ?_)
            rw [fe_I h_18, fe_J h_18, fe_ri h_18, fe_rj h_18, fe_rq h_18]
            refine fg_bV g_X12_emit_f rfl (fun I_278 J_z19 ri_279 rj_z19 rq_z19 h_19 => ?_)
            rw [fe_J h_19, fe_rj h_19, fe_rq h_19]
            refine fg_bV g_X12_nextToken_x_f rfl (fun I_301 J_302 ri_z20 rj_z20 rq_z20 h_20 => ?_)
            rw [fe_ri h_20, fe_rj h_20, fe_rq h_20]
            refine fg_bV g_X12_whole_f rfl (fun I_322 J_z21 ri_323 rj_z21 rq_z21 h_21 => ?_)
            rw [fe_J h_21, fe_rj h_21, fe_rq h_21]
            exact fv_rt rfl

def w_X12_behindOne : wS := ([391, 392, 393, 394, 398, 401, 402, 403], [395], [384, 400], [], [])
theorem g_X12_behindOne_f {I : Nat → Int32} {J : Nat → Int64} {ri : Nat → Nat → Int32} {rj : Nat → Nat → Int64} {rq : Nat → Nat → Option Nat}  : FRG id w_X12_behindOne (I, J, ri, rj, rq) (g_X12_behindOne  I J ri rj rq) := by
  rw [g_X12_behindOne_e]
  refine fg_ap (fun y_1 => ?_)
  refine fg_bV g_X12_nextToken_x_f rfl (fun I_5 J_6 ri_z1 rj_z1 rq_z1 h_1 => ?_)
  rw [fe_ri h_1, fe_rj h_1, fe_rq h_1]
  refine fg_if ?_ ?_
  · refine fg_bV g_X12_settle_f rfl (fun I_326 J_z2 ri_327 rj_z2 rq_z2 h_2 => ?_)
    rw [fe_J h_2, fe_rj h_2, fe_rq h_2]
    refine fg_ap (fun y_345 => ?_)
    refine fg_ap (fun x_346 => ?_)
    refine fg_I rfl (fun I_348 => ?_)
    refine fg_ap (fun y_358 => ?_)
    refine fg_ap (fun x_360 => ?_)
    refine fg_I rfl (fun I_362 => ?_)
    refine fg_bV g_X12_whole_f rfl (fun I_373 J_z3 ri_374 rj_z3 rq_z3 h_3 => ?_)
    rw [fe_J h_3, fe_rj h_3, fe_rq h_3]
    exact fv_rt rfl
  · refine fg_if ?_ ?_
    · refine fg_bV g_X12_settle_f rfl (fun I_38 J_z4 ri_39 rj_z4 rq_z4 h_4 => ?_)
      rw [fe_J h_4, fe_rj h_4, fe_rq h_4]
      refine fg_bV g_X12_push_f rfl (fun I_63 J_z5 ri_64 rj_z5 rq_z5 h_5 => ?_)
      rw [fe_J h_5, fe_rj h_5, fe_rq h_5]
      refine fg_I rfl (fun I_82 => ?_)
      exact fv_rt rfl
    · refine fg_if ?_ ?_
      · refine fg_bV g_X12_settle_f rfl (fun I_264 J_z6 ri_265 rj_z6 rq_z6 h_6 => ?_)
        rw [fe_J h_6, fe_rj h_6, fe_rq h_6]
        refine fg_bV g_X12_push_f rfl (fun I_293 J_z7 ri_294 rj_z7 rq_z7 h_7 => ?_)
        rw [fe_J h_7, fe_rj h_7, fe_rq h_7]
        refine fg_I rfl (fun I_312 => ?_)
        exact fv_rt rfl
      · refine fg_bV g_X12_settle_f rfl (fun I_100 J_z8 ri_101 rj_z8 rq_z8 h_8 => ?_)
        rw [fe_J h_8, fe_rj h_8, fe_rq h_8]
        refine fg_if ?_ ?_
        · refine fg_bV g_X12_push_f rfl (fun I_231 J_z9 ri_232 rj_z9 rq_z9 h_9 => ?_)
          rw [fe_J h_9, fe_rj h_9, fe_rq h_9]
          refine fg_I rfl (fun I_250 => ?_)
          exact fv_rt rfl
        · refine fg_if ?_ ?_
          · refine fg_bV g_X12_push_f rfl (fun I_199 J_z10 ri_200 rj_z10 rq_z10 h_10 => ?_)
            rw [fe_J h_10, fe_rj h_10, fe_rq h_10]
            refine fg_I rfl (fun I_218 => ?_)
            exact fv_rt rfl
          · refine fg_if ?_ ?_
            · refine fg_bV g_X12_push_f rfl (fun I_167 J_z11 ri_168 rj_z11 rq_z11 h_11 => ?_)
              rw [fe_J h_11, fe_rj h_11, fe_rq h_11]
              refine fg_I rfl (fun I_186 => ?_)
              exact fv_rt rfl
            · refine fg_bV g_X12_push_f rfl (fun I_135 J_z12 ri_136 rj_z12 rq_z12 h_12 => ?_)
              rw [fe_J h_12, fe_rj h_12, fe_rq h_12]
              refine fg_I rfl (fun I_154 => ?_)
              exact fv_rt rfl

def w_X12_sum : wS := ([391, 392, 393, 394, 398, 401, 402, 403], [395], [384, 400], [], [])
theorem g_X12_sum_L10_f {rj : Nat → Nat → Int64} {rq : Nat → Nat → Option Nat}  : ∀ (n_324 : Nat) (I_231 : Nat → Int32) (J_232 : Nat → Int64) (ri_233 : Nat → Nat → Int32), FRG Prod.snd w_X12_sum (I_231, J_232, ri_233, rj, rq) (g_X12_sum_L10 rj rq n_324 I_231 J_232 ri_233) := by
  intro n_324
  induction n_324 with
  | zero => intros; exact fv_rt rfl
  | succ n_324 ih =>
    intro I_231 J_232 ri_233
    rw [g_X12_sum_L10_e]
    refine fg_ap (fun y_332 => ?_)
    refine fg_if ?_ ?_
    · refine fg_bI g_X12_beginOne_f rfl (fun x_344 I_346 J_347 ri_348 rj_z1 rq_z1 h_1 => ?_)
      rw [fe_rj h_1, fe_rq h_1]
      refine fg_if ?_ ?_
      · exact ih _ _ _
      · exact fv_rt rfl
    · refine fg_bI g_X12_goesOn_f rfl (fun x_369 I_z2 J_z2 ri_z2 rj_z2 rq_z2 h_2 => ?_)
      rw [fe_I h_2, fe_J h_2, fe_ri h_2, fe_rj h_2, fe_rq h_2]
      refine fg_if ?_ ?_
      · refine fg_bV g_X12_settle_f rfl (fun I_389 J_z3 ri_390 rj_z3 rq_z3 h_3 => ?_)
        rw [fe_J h_3, fe_rj h_3, fe_rq h_3]
        refine fg_ap (fun y_408 => ?_)
        refine fg_if ?_ ?_
        · exact fv_rt rfl
        · exact fv_rt rfl
      · refine fg_bV g_X12_behindOne_f rfl (fun I_428 J_429 ri_430 rj_z4 rq_z4 h_4 => ?_)
        rw [fe_rj h_4, fe_rq h_4]
        exact ih _ _ _
theorem g_X12_sum_f {I : Nat → Int32} {J : Nat → Int64} {ri : Nat → Nat → Int32} {rj : Nat → Nat → Int64} {rq : Nat → Nat → Option Nat}  : FRG Prod.snd w_X12_sum (I, J, ri, rj, rq) (g_X12_sum  I J ri rj rq) := by
  rw [g_X12_sum_e]
  refine fg_I rfl (fun I_1 => ?_)
  refine fg_I rfl (fun I_10 => ?_)
  refine fg_ap (fun y_440 => ?_)
  refine fg_ap (fun y_441 => ?_)
  exact g_X12_sum_L10_f  _ _ _ _

def w_X12_compareOf : wS := ([], [], [], [], [])
theorem g_X12_compareOf_f {I : Nat → Int32} {J : Nat → Int64} {ri : Nat → Nat → Int32} {rj : Nat → Nat → Int64} {rq : Nat → Nat → Option Nat}  : FRG Prod.snd w_X12_compareOf (I, J, ri, rj, rq) (g_X12_compareOf  I J ri rj rq) := by
  rw [g_X12_compareOf_e]
  refine fg_ap (fun y_1 => ?_)
  refine fg_if ?_ ?_
  · exact fv_rt rfl
  · refine fg_if ?_ ?_
    · exact fv_rt rfl
    · refine fg_if ?_ ?_
      · exact fv_rt rfl
      · refine fg_if ?_ ?_
        · exact fv_rt rfl
        · refine fg_if ?_ ?_
          · exact fv_rt rfl
          · refine fg_if ?_ ?_
            · exact fv_rt rfl
            · exact fv_rt rfl

def w_X12_ask : wS := ([391, 392, 393, 394, 398, 401, 402, 403], [395], [384, 400], [], [])
theorem g_X12_ask_L105_f {rj : Nat → Nat → Int64} {rq : Nat → Nat → Option Nat} {x_2268 : Int32} {J_2834 : Nat → Int64}  : ∀ (n_3141 : Nat) (x_3103 : Int32) (I_3104 : Nat → Int32) (ri_3105 : Nat → Nat → Int32), FRG Prod.snd w_X12_ask (I_3104, J_2834, ri_3105, rj, rq) (g_X12_ask_L105 rj rq x_2268 J_2834 n_3141 x_3103 I_3104 ri_3105) := by
  intro n_3141
  induction n_3141 with
  | zero => intros; exact fv_rt rfl
  | succ n_3141 ih =>
    intro x_3103 I_3104 ri_3105
    rw [g_X12_ask_L105_e]
    refine fg_if ?_ ?_
    · exact fv_rt rfl
    · refine fg_bV g_X12_emit_f rfl (fun I_3164 J_z1 ri_3165 rj_z1 rq_z1 h_1 => ?_)
      rw [fe_J h_1, fe_rj h_1, fe_rq h_1]
      refine fg_ap (fun x_3184 => ?_)
      exact ih _ _ _
theorem g_X12_ask_L2_f {ri : Nat → Nat → Int32} {rj : Nat → Nat → Int64} {rq : Nat → Nat → Option Nat}  : ∀ (n_2737 : Nat) (x_2268 : Int32) (I_2269 : Nat → Int32) (J_2270 : Nat → Int64), FRG Prod.snd w_X12_ask (I_2269, J_2270, ri, rj, rq) (g_X12_ask_L2 ri rj rq n_2737 x_2268 I_2269 J_2270) := by
  intro n_2737
  induction n_2737 with
  | zero => intros; exact fv_rt rfl
  | succ n_2737 ih =>
    intro x_2268 I_2269 J_2270
    rw [g_X12_ask_L2_e]
    refine fg_ap (fun x_2748 => ?_)
    refine fg_bI g_X12_isWord_x_f rfl (fun x_2755 I_z2 J_z2 ri_z2 rj_z2 rq_z2 h_2 => ?_)
    rw [fe_I h_2, fe_J h_2, fe_ri h_2, fe_rj h_2, fe_rq h_2]
    refine fg_if ?_ ?_
    · refine fg_bI g_X12_sum_f rfl (fun x_2773 I_2775 J_2776 ri_2777 rj_z3 rq_z3 h_3 => ?_)
      rw [fe_rj h_3, fe_rq h_3]
      refine fg_if ?_ ?_
      · refine fg_bI g_X12_compareOf_f rfl (fun x_2793 I_z4 J_z4 ri_z4 rj_z4 rq_z4 h_4 => ?_)
        rw [fe_I h_4, fe_J h_4, fe_ri h_4, fe_rj h_4, fe_rq h_4]
        refine fg_if ?_ ?_
        · refine fg_bV g_X12_nextToken_x_f rfl (fun I_2812 J_2813 ri_z5 rj_z5 rq_z5 h_5 => ?_)
          rw [fe_ri h_5, fe_rj h_5, fe_rq h_5]
          refine fg_bI g_X12_sum_f rfl (fun x_2831 I_2833 J_2834 ri_2835 rj_z6 rq_z6 h_6 => ?_)
          rw [fe_rj h_6, fe_rq h_6]
          refine fg_if ?_ ?_
          · refine fg_bV g_X12_emit_f rfl (fun I_2853 J_z7 ri_2854 rj_z7 rq_z7 h_7 => ?_)
            rw [fe_J h_7, fe_rj h_7, fe_rq h_7]
            refine fg_ap (fun y_2873 => ?_)
            refine fg_ap (fun x_2875 => ?_)
            refine fg_I rfl (fun I_2877 => ?_)
            exact g_X12_ask_L105_f  _ _ _ _
          · exact fv_rt rfl
        · exact fv_rt rfl
      · exact fv_rt rfl
    · refine fg_ap (fun y_3195 => ?_)
      refine fg_if ?_ ?_
      · exact fv_rt rfl
      · refine fg_ap (fun x_3202 => ?_)
        refine fg_I rfl (fun I_3204 => ?_)
        refine fg_ap (fun x_3214 => ?_)
        refine fg_bV g_X12_nextToken_x_f rfl (fun I_3219 J_3220 ri_z8 rj_z8 rq_z8 h_8 => ?_)
        rw [fe_ri h_8, fe_rj h_8, fe_rq h_8]
        exact ih _ _ _
theorem g_X12_ask_f {I : Nat → Int32} {J : Nat → Int64} {ri : Nat → Nat → Int32} {rj : Nat → Nat → Int64} {rq : Nat → Nat → Option Nat}  : FRG Prod.snd w_X12_ask (I, J, ri, rj, rq) (g_X12_ask  I J ri rj rq) := by
  rw [g_X12_ask_e]
  refine fg_ap (fun y_3240 => ?_)
  refine fg_ap (fun y_3241 => ?_)
  exact g_X12_ask_L2_f  _ _ _ _

def w_X12_either : wS := ([391, 392, 393, 394, 398, 401, 402, 403], [395], [384, 400], [], [])
theorem g_X12_either_L6_f {rj : Nat → Nat → Int64} {rq : Nat → Nat → Option Nat}  : ∀ (n_2607 : Nat) (x_1949 : Int32) (x_1950 : Int32) (x_1951 : Int32) (I_1952 : Nat → Int32) (J_1953 : Nat → Int64) (ri_1954 : Nat → Nat → Int32), FRG Prod.snd w_X12_either (I_1952, J_1953, ri_1954, rj, rq) (g_X12_either_L6 rj rq n_2607 x_1949 x_1950 x_1951 I_1952 J_1953 ri_1954) := by
  intro n_2607
  induction n_2607 with
  | zero => intros; exact fv_rt rfl
  | succ n_2607 ih =>
    intro x_1949 x_1950 x_1951 I_1952 J_1953 ri_1954
    rw [g_X12_either_L6_e]
    refine fg_if ?_ ?_
    · exact fv_rt rfl
    · refine fg_bI g_X12_ask_f rfl (fun x_2629 I_2631 J_2632 ri_2633 rj_z1 rq_z1 h_1 => ?_)
      rw [fe_rj h_1, fe_rq h_1]
      refine fg_if ?_ ?_
      · refine fg_if ?_ ?_
        · refine fg_ap (fun x_2656 => ?_)
          refine fg_bI g_X12_isWord_x_f rfl (fun x_2663 I_z2 J_z2 ri_z2 rj_z2 rq_z2 h_2 => ?_)
          rw [fe_I h_2, fe_J h_2, fe_ri h_2, fe_rj h_2, fe_rq h_2]
          refine fg_ap (fun y_2671 => ?_)
          refine fg_if ?_ ?_
          · refine fg_ap (fun y_2777 => ?_)
            refine fg_ap (fun x_2778 => ?_)
            refine fg_if ?_ ?_
            · refine fg_if ?_ ?_
              · refine fg_if ?_ ?_
                · refine fg_bV g_X12_nextToken_x_f rfl (fun I_2950 J_2951 ri_z3 rj_z3 rq_z3 h_3 => ?_)
                  rw [fe_ri h_3, fe_rj h_3, fe_rq h_3]
                  exact ih _ _ _ _ _ _
                · refine fg_bV g_X12_emit_f rfl (fun I_2973 J_z4 ri_2974 rj_z4 rq_z4 h_4 => ?_)
                  rw [fe_J h_4, fe_rj h_4, fe_rq h_4]
                  refine fg_bV g_X12_nextToken_x_f rfl (fun I_3007 J_3008 ri_z5 rj_z5 rq_z5 h_5 => ?_)
                  rw [fe_ri h_5, fe_rj h_5, fe_rq h_5]
                  exact ih _ _ _ _ _ _
              · refine fg_bV g_X12_nextToken_x_f rfl (fun I_2905 J_2906 ri_z6 rj_z6 rq_z6 h_6 => ?_)
                rw [fe_ri h_6, fe_rj h_6, fe_rq h_6]
                exact ih _ _ _ _ _ _
            · refine fg_if ?_ ?_
              · refine fg_if ?_ ?_
                · exact ih _ _ _ _ _ _
                · refine fg_bV g_X12_emit_f rfl (fun I_2851 J_z7 ri_2852 rj_z7 rq_z7 h_7 => ?_)
                  rw [fe_J h_7, fe_rj h_7, fe_rq h_7]
                  exact ih _ _ _ _ _ _
              · refine fg_bV g_X12_nextToken_x_f rfl (fun I_2805 J_2806 ri_z8 rj_z8 rq_z8 h_8 => ?_)
                rw [fe_ri h_8, fe_rj h_8, fe_rq h_8]
                exact ih _ _ _ _ _ _
          · refine fg_if ?_ ?_
            · refine fg_if ?_ ?_
              · exact ih _ _ _ _ _ _
              · refine fg_bV g_X12_emit_f rfl (fun I_2744 J_z9 ri_2745 rj_z9 rq_z9 h_9 => ?_)
                rw [fe_J h_9, fe_rj h_9, fe_rq h_9]
                exact ih _ _ _ _ _ _
            · refine fg_bV g_X12_nextToken_x_f rfl (fun I_2698 J_2699 ri_z10 rj_z10 rq_z10 h_10 => ?_)
              rw [fe_ri h_10, fe_rj h_10, fe_rq h_10]
              exact ih _ _ _ _ _ _
        · refine fg_bV g_X12_emit_f rfl (fun I_3030 J_z11 ri_3031 rj_z11 rq_z11 h_11 => ?_)
          rw [fe_J h_11, fe_rj h_11, fe_rq h_11]
          refine fg_ap (fun x_3050 => ?_)
          refine fg_bI g_X12_isWord_x_f rfl (fun x_3057 I_z12 J_z12 ri_z12 rj_z12 rq_z12 h_12 => ?_)
          rw [fe_I h_12, fe_J h_12, fe_ri h_12, fe_rj h_12, fe_rq h_12]
          refine fg_ap (fun y_3065 => ?_)
          refine fg_if ?_ ?_
          · refine fg_ap (fun y_3171 => ?_)
            refine fg_ap (fun x_3172 => ?_)
            refine fg_if ?_ ?_
            · refine fg_if ?_ ?_
              · refine fg_if ?_ ?_
                · refine fg_bV g_X12_nextToken_x_f rfl (fun I_3344 J_3345 ri_z13 rj_z13 rq_z13 h_13 => ?_)
                  rw [fe_ri h_13, fe_rj h_13, fe_rq h_13]
                  exact ih _ _ _ _ _ _
                · refine fg_bV g_X12_emit_f rfl (fun I_3367 J_z14 ri_3368 rj_z14 rq_z14 h_14 => ?_)
                  rw [fe_J h_14, fe_rj h_14, fe_rq h_14]
                  refine fg_bV g_X12_nextToken_x_f rfl (fun I_3401 J_3402 ri_z15 rj_z15 rq_z15 h_15 => ?_)
                  rw [fe_ri h_15, fe_rj h_15, fe_rq h_15]
                  exact ih _ _ _ _ _ _
              · refine fg_bV g_X12_nextToken_x_f rfl (fun I_3299 J_3300 ri_z16 rj_z16 rq_z16 h_16 => ?_)
                rw [fe_ri h_16, fe_rj h_16, fe_rq h_16]
                exact ih _ _ _ _ _ _
            · refine fg_if ?_ ?_
              · refine fg_if ?_ ?_
                · exact ih _ _ _ _ _ _
                · refine fg_bV g_X12_emit_f rfl (fun I_3245 J_z17 ri_3246 rj_z17 rq_z17 h_17 => ?_)
                  rw [fe_J h_17, fe_rj h_17, fe_rq h_17]
                  exact ih _ _ _ _ _ _
              · refine fg_bV g_X12_nextToken_x_f rfl (fun I_3199 J_3200 ri_z18 rj_z18 rq_z18 h_18 => ?_)
                rw [fe_ri h_18, fe_rj h_18, fe_rq h_18]
                exact ih _ _ _ _ _ _
          · refine fg_if ?_ ?_
            · refine fg_if ?_ ?_
              · exact ih _ _ _ _ _ _
              · refine fg_bV g_X12_emit_f rfl (fun I_3138 J_z19 ri_3139 rj_z19 rq_z19 h_19 => ?_)
                rw [fe_J h_19, fe_rj h_19, fe_rq h_19]
                exact ih _ _ _ _ _ _
            · refine fg_bV g_X12_nextToken_x_f rfl (fun I_3092 J_3093 ri_z20 rj_z20 rq_z20 h_20 => ?_)
              rw [fe_ri h_20, fe_rj h_20, fe_rq h_20]
              exact ih _ _ _ _ _ _
      · exact fv_rt rfl
theorem g_X12_either_f {I : Nat → Int32} {J : Nat → Int64} {ri : Nat → Nat → Int32} {rj : Nat → Nat → Int64} {rq : Nat → Nat → Option Nat}  : FRG Prod.snd w_X12_either (I, J, ri, rj, rq) (g_X12_either  I J ri rj rq) := by
  rw [g_X12_either_e]
  refine fg_ap (fun y_3422 => ?_)
  refine fg_ap (fun y_3423 => ?_)
  exact g_X12_either_L6_f  _ _ _ _ _ _ _




def w_X12_nameOf_d : wS := ([], [], [], [], [])
theorem g_X12_nameOf_d_f {I : Nat → Int32} {J : Nat → Int64} {ri : Nat → Nat → Int32} {rj : Nat → Nat → Int64} {rq : Nat → Nat → Option Nat}  : FRG Prod.snd w_X12_nameOf_d (I, J, ri, rj, rq) (g_X12_nameOf_d  I J ri rj rq) := by
  rw [g_X12_nameOf_d_e]
  refine fg_ap (fun y_1 => ?_)
  refine fg_if ?_ ?_
  · refine fg_ap (fun y_8 => ?_)
    refine fg_ap (fun x_9 => ?_)
    refine fg_ap (fun x_17 => ?_)
    refine fg_if ?_ ?_
    · exact fv_rt rfl
    · refine fg_ap (fun x_24 => ?_)
      refine fg_ap (fun x_32 => ?_)
      refine fg_if ?_ ?_
      · exact fv_rt rfl
      · refine fg_ap (fun x_39 => ?_)
        refine fg_ap (fun x_47 => ?_)
        refine fg_if ?_ ?_
        · exact fv_rt rfl
        · refine fg_ap (fun x_54 => ?_)
          refine fg_ap (fun x_62 => ?_)
          refine fg_if ?_ ?_
          · exact fv_rt rfl
          · refine fg_ap (fun x_69 => ?_)
            refine fg_ap (fun x_77 => ?_)
            refine fg_if ?_ ?_
            · exact fv_rt rfl
            · refine fg_ap (fun x_84 => ?_)
              refine fg_ap (fun x_92 => ?_)
              refine fg_if ?_ ?_
              · exact fv_rt rfl
              · exact fv_rt rfl
  · exact fv_rt rfl

def w_X12_keys : wS := ([391, 392, 393, 394], [395], [384], [], [])
theorem g_X12_keys_L11_f {a0 : Int32} {rj : Nat → Nat → Int64} {rq : Nat → Nat → Option Nat}  : ∀ (n_1530 : Nat) (x_1222 : Int32) (I_1223 : Nat → Int32) (J_1224 : Nat → Int64) (ri_1225 : Nat → Nat → Int32), FRG Prod.snd w_X12_keys (I_1223, J_1224, ri_1225, rj, rq) (g_X12_keys_L11 a0 rj rq n_1530 x_1222 I_1223 J_1224 ri_1225) := by
  intro n_1530
  induction n_1530 with
  | zero => intros; exact fv_rt rfl
  | succ n_1530 ih =>
    intro x_1222 I_1223 J_1224 ri_1225
    rw [g_X12_keys_L11_e]
    refine fg_if ?_ ?_
    · exact fv_rt rfl
    · refine fg_ap (fun y_1550 => ?_)
      refine fg_if ?_ ?_
      · refine fg_ap (fun x_1763 => ?_)
        refine fg_ap (fun x_1765 => ?_)
        refine fg_if ?_ ?_
        · exact fv_rt rfl
        · refine fg_bV g_X12_nextToken_x_f rfl (fun I_1779 J_1780 ri_z1 rj_z1 rq_z1 h_1 => ?_)
          rw [fe_ri h_1, fe_rj h_1, fe_rq h_1]
          refine fg_bI g_X12_nameOf_d_f rfl (fun x_1791 I_z2 J_z2 ri_z2 rj_z2 rq_z2 h_2 => ?_)
          rw [fe_I h_2, fe_J h_2, fe_ri h_2, fe_rj h_2, fe_rq h_2]
          refine fg_if ?_ ?_
          · refine fg_ap (fun x_1806 => ?_)
            refine fg_ap (fun x_1808 => ?_)
            refine fg_ap (fun x_1810 => ?_)
            refine fg_ap (fun x_1814 => ?_)
            refine fg_bI g_X12_nameOf_d_f rfl (fun x_1817 I_z3 J_z3 ri_z3 rj_z3 rq_z3 h_3 => ?_)
            rw [fe_I h_3, fe_J h_3, fe_ri h_3, fe_rj h_3, fe_rq h_3]
            refine fg_ap (fun x_1825 => ?_)
            refine fg_ri rfl (fun r_1827 => ?_)
            refine fg_ap (fun x_1828 => ?_)
            refine fg_ap (fun x_1830 => ?_)
            refine fg_ap (fun x_1833 => ?_)
            refine fg_ri rfl (fun r_1835 => ?_)
            refine fg_bV g_X12_nextToken_x_f rfl (fun I_1839 J_1840 ri_z4 rj_z4 rq_z4 h_4 => ?_)
            rw [fe_ri h_4, fe_rj h_4, fe_rq h_4]
            refine fg_ap (fun y_1851 => ?_)
            refine fg_if ?_ ?_
            · refine fg_bV g_X12_nextToken_x_f rfl (fun I_1864 J_1865 ri_z5 rj_z5 rq_z5 h_5 => ?_)
              rw [fe_ri h_5, fe_rj h_5, fe_rq h_5]
              exact ih _ _ _ _
            · exact ih _ _ _ _
          · exact fv_rt rfl
      · refine fg_bI g_X12_nameOf_d_f rfl (fun x_1557 I_z6 J_z6 ri_z6 rj_z6 rq_z6 h_6 => ?_)
        rw [fe_I h_6, fe_J h_6, fe_ri h_6, fe_rj h_6, fe_rq h_6]
        refine fg_if ?_ ?_
        · refine fg_bI g_X12_nameOf_d_f rfl (fun x_1573 I_z7 J_z7 ri_z7 rj_z7 rq_z7 h_7 => ?_)
          rw [fe_I h_7, fe_J h_7, fe_ri h_7, fe_rj h_7, fe_rq h_7]
          refine fg_if ?_ ?_
          · refine fg_ap (fun x_1588 => ?_)
            refine fg_ap (fun x_1590 => ?_)
            refine fg_ap (fun x_1592 => ?_)
            refine fg_ap (fun x_1595 => ?_)
            refine fg_bI g_X12_nameOf_d_f rfl (fun x_1598 I_z8 J_z8 ri_z8 rj_z8 rq_z8 h_8 => ?_)
            rw [fe_I h_8, fe_J h_8, fe_ri h_8, fe_rj h_8, fe_rq h_8]
            refine fg_ri rfl (fun r_1606 => ?_)
            refine fg_ap (fun x_1607 => ?_)
            refine fg_ap (fun x_1609 => ?_)
            refine fg_ap (fun x_1612 => ?_)
            refine fg_ri rfl (fun r_1614 => ?_)
            refine fg_bV g_X12_nextToken_x_f rfl (fun I_1619 J_1620 ri_z9 rj_z9 rq_z9 h_9 => ?_)
            rw [fe_ri h_9, fe_rj h_9, fe_rq h_9]
            refine fg_ap (fun y_1631 => ?_)
            refine fg_if ?_ ?_
            · refine fg_bV g_X12_nextToken_x_f rfl (fun I_1644 J_1645 ri_z10 rj_z10 rq_z10 h_10 => ?_)
              rw [fe_ri h_10, fe_rj h_10, fe_rq h_10]
              exact ih _ _ _ _
            · exact ih _ _ _ _
          · exact fv_rt rfl
        · refine fg_ap (fun x_1660 => ?_)
          refine fg_ap (fun x_1662 => ?_)
          refine fg_if ?_ ?_
          · exact fv_rt rfl
          · refine fg_bI g_X12_nameOf_d_f rfl (fun x_1672 I_z11 J_z11 ri_z11 rj_z11 rq_z11 h_11 => ?_)
            rw [fe_I h_11, fe_J h_11, fe_ri h_11, fe_rj h_11, fe_rq h_11]
            refine fg_if ?_ ?_
            · refine fg_ap (fun x_1687 => ?_)
              refine fg_ap (fun x_1689 => ?_)
              refine fg_ap (fun x_1691 => ?_)
              refine fg_ap (fun x_1695 => ?_)
              refine fg_bI g_X12_nameOf_d_f rfl (fun x_1698 I_z12 J_z12 ri_z12 rj_z12 rq_z12 h_12 => ?_)
              rw [fe_I h_12, fe_J h_12, fe_ri h_12, fe_rj h_12, fe_rq h_12]
              refine fg_ri rfl (fun r_1706 => ?_)
              refine fg_ap (fun x_1707 => ?_)
              refine fg_ap (fun x_1709 => ?_)
              refine fg_ap (fun x_1712 => ?_)
              refine fg_ri rfl (fun r_1714 => ?_)
              refine fg_bV g_X12_nextToken_x_f rfl (fun I_1719 J_1720 ri_z13 rj_z13 rq_z13 h_13 => ?_)
              rw [fe_ri h_13, fe_rj h_13, fe_rq h_13]
              refine fg_ap (fun y_1731 => ?_)
              refine fg_if ?_ ?_
              · refine fg_bV g_X12_nextToken_x_f rfl (fun I_1744 J_1745 ri_z14 rj_z14 rq_z14 h_14 => ?_)
                rw [fe_ri h_14, fe_rj h_14, fe_rq h_14]
                exact ih _ _ _ _
              · exact ih _ _ _ _
            · exact fv_rt rfl
theorem g_X12_keys_f {a0 : Int32} {I : Nat → Int32} {J : Nat → Int64} {ri : Nat → Nat → Int32} {rj : Nat → Nat → Int64} {rq : Nat → Nat → Option Nat}  : FRG Prod.snd w_X12_keys (I, J, ri, rj, rq) (g_X12_keys  a0 I J ri rj rq) := by
  rw [g_X12_keys_e]
  refine fg_ap (fun x_2 => ?_)
  refine fg_ri rfl (fun r_4 => ?_)
  refine fg_ap (fun y_1880 => ?_)
  refine fg_ap (fun y_1881 => ?_)
  exact g_X12_keys_L11_f  _ _ _ _ _

def w_X12_take : wS := ([391, 392, 393, 394], [395], [384], [], [])
theorem g_X12_take_f {a0 : Int32} {a1 : Int32} {I : Nat → Int32} {J : Nat → Int64} {ri : Nat → Nat → Int32} {rj : Nat → Nat → Int64} {rq : Nat → Nat → Option Nat}  : FRG Prod.snd w_X12_take (I, J, ri, rj, rq) (g_X12_take  a0 a1 I J ri rj rq) := by
  rw [g_X12_take_e]
  refine fg_ap (fun y_2 => ?_)
  refine fg_if ?_ ?_
  · refine fg_ap (fun y_9 => ?_)
    refine fg_if ?_ ?_
    · refine fg_ri rfl (fun r_16 => ?_)
      refine fg_bV g_X12_nextToken_x_f rfl (fun I_21 J_22 ri_z1 rj_z1 rq_z1 h_1 => ?_)
      rw [fe_ri h_1, fe_rj h_1, fe_rq h_1]
      exact fv_rt rfl
    · exact fv_rt rfl
  · exact fv_rt rfl

def w_X12_sortOf : wS := ([], [], [], [], [])
theorem g_X12_sortOf_f {I : Nat → Int32} {J : Nat → Int64} {ri : Nat → Nat → Int32} {rj : Nat → Nat → Int64} {rq : Nat → Nat → Option Nat}  : FRG Prod.snd w_X12_sortOf (I, J, ri, rj, rq) (g_X12_sortOf  I J ri rj rq) := by
  rw [g_X12_sortOf_e]
  refine fg_ap (fun y_1 => ?_)
  refine fg_if ?_ ?_
  · refine fg_ap (fun y_8 => ?_)
    refine fg_ap (fun x_9 => ?_)
    refine fg_ap (fun x_17 => ?_)
    refine fg_if ?_ ?_
    · exact fv_rt rfl
    · refine fg_ap (fun x_23 => ?_)
      refine fg_ap (fun x_30 => ?_)
      refine fg_if ?_ ?_
      · exact fv_rt rfl
      · refine fg_ap (fun x_36 => ?_)
        refine fg_ap (fun x_44 => ?_)
        refine fg_if ?_ ?_
        · exact fv_rt rfl
        · refine fg_ap (fun x_50 => ?_)
          refine fg_ap (fun x_58 => ?_)
          refine fg_if ?_ ?_
          · exact fv_rt rfl
          · refine fg_ap (fun x_64 => ?_)
            refine fg_ap (fun x_72 => ?_)
            refine fg_if ?_ ?_
            · exact fv_rt rfl
            · refine fg_ap (fun x_78 => ?_)
              refine fg_ap (fun x_86 => ?_)
              refine fg_if ?_ ?_
              · exact fv_rt rfl
              · refine fg_ap (fun x_92 => ?_)
                refine fg_ap (fun x_99 => ?_)
                refine fg_ap (fun x_100 => ?_)
                refine fg_ap (fun x_101 => ?_)
                refine fg_if ?_ ?_
                · exact fv_rt rfl
                · refine fg_ap (fun x_107 => ?_)
                  refine fg_ap (fun x_115 => ?_)
                  refine fg_if ?_ ?_
                  · exact fv_rt rfl
                  · refine fg_ap (fun x_121 => ?_)
                    refine fg_ap (fun x_129 => ?_)
                    refine fg_if ?_ ?_
                    · exact fv_rt rfl
                    · exact fv_rt rfl
  · exact fv_rt rfl

def w_X12_clause : wS := ([391, 392, 393, 394, 397, 398, 399, 401, 402, 403], [395], [384, 400], [], [])
theorem g_X12_clause_f {I : Nat → Int32} {J : Nat → Int64} {ri : Nat → Nat → Int32} {rj : Nat → Nat → Int64} {rq : Nat → Nat → Option Nat}  : FRG Prod.snd w_X12_clause (I, J, ri, rj, rq) (g_X12_clause  I J ri rj rq) := by
  rw [g_X12_clause_e]
  refine fg_bI g_X12_sortOf_f rfl (fun x_1 I_z1 J_z1 ri_z1 rj_z1 rq_z1 h_1 => ?_)
  rw [fe_I h_1, fe_J h_1, fe_ri h_1, fe_rj h_1, fe_rq h_1]
  refine fg_if ?_ ?_
  · exact fv_rt rfl
  · refine fg_if ?_ ?_
    · refine fg_ap (fun y_24 => ?_)
      refine fg_if ?_ ?_
      · exact fv_rt rfl
      · refine fg_ap (fun y_32 => ?_)
        refine fg_ap (fun x_33 => ?_)
        refine fg_ap (fun x_34 => ?_)
        refine fg_I rfl (fun I_35 => ?_)
        refine fg_ap (fun y_45 => ?_)
        refine fg_ap (fun x_46 => ?_)
        refine fg_ap (fun y_49 => ?_)
        refine fg_ap (fun x_50 => ?_)
        refine fg_ap (fun x_52 => ?_)
        refine fg_ri rfl (fun r_55 => ?_)
        refine fg_bV g_X12_nextToken_x_f rfl (fun I_59 J_60 ri_z2 rj_z2 rq_z2 h_2 => ?_)
        rw [fe_ri h_2, fe_rj h_2, fe_rq h_2]
        refine fg_ap (fun x_80 => ?_)
        refine fg_ap (fun y_83 => ?_)
        refine fg_ri rfl (fun r_84 => ?_)
        refine fg_bI g_X12_either_f rfl (fun x_85 I_87 J_88 ri_89 rj_z3 rq_z3 h_3 => ?_)
        rw [fe_rj h_3, fe_rq h_3]
        refine fg_ap (fun x_98 => ?_)
        refine fg_ap (fun y_101 => ?_)
        refine fg_ri rfl (fun r_102 => ?_)
        refine fg_if ?_ ?_
        · refine fg_ap (fun y_110 => ?_)
          refine fg_if ?_ ?_
          · refine fg_ap (fun y_118 => ?_)
            refine fg_ap (fun x_119 => ?_)
            refine fg_I rfl (fun I_121 => ?_)
            refine fg_bV g_X12_nextToken_x_f rfl (fun I_133 J_134 ri_z4 rj_z4 rq_z4 h_4 => ?_)
            rw [fe_ri h_4, fe_rj h_4, fe_rq h_4]
            exact fv_rt rfl
          · exact fv_rt rfl
        · exact fv_rt rfl
    · refine fg_ap (fun y_156 => ?_)
      refine fg_ap (fun x_157 => ?_)
      refine fg_ap (fun x_158 => ?_)
      refine fg_if ?_ ?_
      · exact fv_rt rfl
      · refine fg_ap (fun y_165 => ?_)
        refine fg_if ?_ ?_
        · exact fv_rt rfl
        · refine fg_ap (fun x_173 => ?_)
          refine fg_ap (fun x_174 => ?_)
          refine fg_I rfl (fun I_175 => ?_)
          refine fg_ap (fun y_185 => ?_)
          refine fg_ap (fun x_186 => ?_)
          refine fg_ap (fun y_189 => ?_)
          refine fg_ap (fun x_190 => ?_)
          refine fg_ap (fun x_192 => ?_)
          refine fg_ri rfl (fun r_195 => ?_)
          refine fg_bV g_X12_nextToken_x_f rfl (fun I_199 J_200 ri_z5 rj_z5 rq_z5 h_5 => ?_)
          rw [fe_ri h_5, fe_rj h_5, fe_rq h_5]
          refine fg_if ?_ ?_
          · refine fg_if ?_ ?_
            · refine fg_ap (fun x_384 => ?_)
              refine fg_bI g_X12_take_f rfl (fun x_386 I_388 J_389 ri_390 rj_z6 rq_z6 h_6 => ?_)
              rw [fe_rj h_6, fe_rq h_6]
              refine fg_if ?_ ?_
              · refine fg_ap (fun y_412 => ?_)
                refine fg_if ?_ ?_
                · refine fg_ap (fun y_420 => ?_)
                  refine fg_ap (fun x_421 => ?_)
                  refine fg_I rfl (fun I_423 => ?_)
                  refine fg_bV g_X12_nextToken_x_f rfl (fun I_435 J_436 ri_z7 rj_z7 rq_z7 h_7 => ?_)
                  rw [fe_ri h_7, fe_rj h_7, fe_rq h_7]
                  exact fv_rt rfl
                · exact fv_rt rfl
              · exact fv_rt rfl
            · refine fg_if ?_ ?_
              · refine fg_ap (fun x_312 => ?_)
                refine fg_bI g_X12_take_f rfl (fun x_314 I_316 J_317 ri_318 rj_z8 rq_z8 h_8 => ?_)
                rw [fe_rj h_8, fe_rq h_8]
                refine fg_if ?_ ?_
                · refine fg_ap (fun y_340 => ?_)
                  refine fg_if ?_ ?_
                  · refine fg_ap (fun y_348 => ?_)
                    refine fg_ap (fun x_349 => ?_)
                    refine fg_I rfl (fun I_351 => ?_)
                    refine fg_bV g_X12_nextToken_x_f rfl (fun I_363 J_364 ri_z9 rj_z9 rq_z9 h_9 => ?_)
                    rw [fe_ri h_9, fe_rj h_9, fe_rq h_9]
                    exact fv_rt rfl
                  · exact fv_rt rfl
                · exact fv_rt rfl
              · refine fg_ap (fun x_240 => ?_)
                refine fg_bI g_X12_take_f rfl (fun x_242 I_244 J_245 ri_246 rj_z10 rq_z10 h_10 => ?_)
                rw [fe_rj h_10, fe_rq h_10]
                refine fg_if ?_ ?_
                · refine fg_ap (fun y_268 => ?_)
                  refine fg_if ?_ ?_
                  · refine fg_ap (fun y_276 => ?_)
                    refine fg_ap (fun x_277 => ?_)
                    refine fg_I rfl (fun I_279 => ?_)
                    refine fg_bV g_X12_nextToken_x_f rfl (fun I_291 J_292 ri_z11 rj_z11 rq_z11 h_11 => ?_)
                    rw [fe_ri h_11, fe_rj h_11, fe_rq h_11]
                    exact fv_rt rfl
                  · exact fv_rt rfl
                · exact fv_rt rfl
          · refine fg_bI g_X12_keys_f rfl (fun x_456 I_458 J_459 ri_460 rj_z12 rq_z12 h_12 => ?_)
            rw [fe_rj h_12, fe_rq h_12]
            refine fg_if ?_ ?_
            · refine fg_ap (fun y_482 => ?_)
              refine fg_if ?_ ?_
              · refine fg_ap (fun y_490 => ?_)
                refine fg_ap (fun x_491 => ?_)
                refine fg_I rfl (fun I_493 => ?_)
                refine fg_bV g_X12_nextToken_x_f rfl (fun I_505 J_506 ri_z13 rj_z13 rq_z13 h_13 => ?_)
                rw [fe_ri h_13, fe_rj h_13, fe_rq h_13]
                exact fv_rt rfl
              · exact fv_rt rfl
            · exact fv_rt rfl

def w_X12_readText : wS := ([391, 392, 393, 394, 396, 397, 398, 399, 401, 402, 403], [395], [384, 400], [], [])
theorem g_X12_readText_L48_f {rj : Nat → Nat → Int64} {rq : Nat → Nat → Option Nat}  : ∀ (n_184 : Nat) (I_157 : Nat → Int32) (J_158 : Nat → Int64) (ri_159 : Nat → Nat → Int32), FRG Prod.snd w_X12_readText (I_157, J_158, ri_159, rj, rq) (g_X12_readText_L48 rj rq n_184 I_157 J_158 ri_159) := by
  intro n_184
  induction n_184 with
  | zero => intros; exact fv_rt rfl
  | succ n_184 ih =>
    intro I_157 J_158 ri_159
    rw [g_X12_readText_L48_e]
    refine fg_ap (fun y_189 => ?_)
    refine fg_if ?_ ?_
    · exact fv_rt rfl
    · refine fg_bI g_X12_clause_f rfl (fun x_197 I_199 J_200 ri_201 rj_z1 rq_z1 h_1 => ?_)
      rw [fe_rj h_1, fe_rq h_1]
      refine fg_if ?_ ?_
      · exact ih _ _ _
      · exact fv_rt rfl
theorem g_X12_readText_f {I : Nat → Int32} {J : Nat → Int64} {ri : Nat → Nat → Int32} {rj : Nat → Nat → Int64} {rq : Nat → Nat → Option Nat}  : FRG Prod.snd w_X12_readText (I, J, ri, rj, rq) (g_X12_readText  I J ri rj rq) := by
  rw [g_X12_readText_e]
  refine fg_ap (fun y_1 => ?_)
  refine fg_ap (fun x_2 => ?_)
  refine fg_ap (fun x_4 => ?_)
  refine fg_I rfl (fun I_6 => ?_)
  refine fg_I rfl (fun I_15 => ?_)
  refine fg_I rfl (fun I_24 => ?_)
  refine fg_I rfl (fun I_33 => ?_)
  refine fg_I rfl (fun I_42 => ?_)
  refine fg_I rfl (fun I_51 => ?_)
  refine fg_bV g_X12_nextToken_x_f rfl (fun I_63 J_64 ri_z2 rj_z2 rq_z2 h_2 => ?_)
  rw [fe_ri h_2, fe_rj h_2, fe_rq h_2]
  refine fg_ap (fun y_218 => ?_)
  refine fg_ap (fun y_219 => ?_)
  exact g_X12_readText_L48_f  _ _ _ _

def w_X12_text : wS := ([388, 389, 390, 391, 392, 393, 394, 396, 397, 398, 399, 401, 402, 403], [395], [384, 400], [], [])
theorem g_X12_text_f {I : Nat → Int32} {J : Nat → Int64} {ri : Nat → Nat → Int32} {rj : Nat → Nat → Int64} {rq : Nat → Nat → Option Nat}  : FRG Prod.snd w_X12_text (I, J, ri, rj, rq) (g_X12_text  I J ri rj rq) := by
  rw [g_X12_text_e]
  refine fg_ap (fun x_1 => ?_)
  refine fg_if ?_ ?_
  · exact fv_rt rfl
  · refine fg_bI g_X12_readText_f rfl (fun x_11 I_13 J_14 ri_15 rj_z1 rq_z1 h_1 => ?_)
    rw [fe_rj h_1, fe_rq h_1]
    refine fg_I rfl (fun I_23 => ?_)
    refine fg_ap (fun y_29 => ?_)
    refine fg_if ?_ ?_
    · refine fg_I rfl (fun I_58 => ?_)
      refine fg_I rfl (fun I_63 => ?_)
      refine fg_ap (fun y_69 => ?_)
      refine fg_ap (fun y_75 => ?_)
      refine fg_ap (fun y_77 => ?_)
      refine fg_ri rfl (fun r_79 => ?_)
      refine fg_ap (fun x_81 => ?_)
      refine fg_ri rfl (fun r_83 => ?_)
      refine fg_ap (fun x_85 => ?_)
      exact fv_rt rfl
    · refine fg_ap (fun y_38 => ?_)
      refine fg_I rfl (fun I_39 => ?_)
      refine fg_I rfl (fun I_44 => ?_)
      refine fg_ap (fun y_50 => ?_)
      exact fv_rt rfl
/-! ===== fault and place stay, or there is a fault ===== -/
def ST (I I1 : Nat → Int32) : Prop := I1 129 ≠ 0 ∨ (I1 129 = I 129 ∧ I1 130 = I 130)
def STG {β : Type} (π : β → vM) (I : Nat → Int32) (b : β) : Prop := ST I (π b).1
section STS
variable {α β γ : Type} {π : β → vM} {s : wS} {I I1 I2 : Nat → Int32} {μ : vM}
theorem st_rf : ST I I := Or.inr ⟨rfl, rfl⟩
theorem st_tr (h : ST I I1) (k : ST I1 I2) : ST I I2 := by
  rcases k with k | ⟨k1, k2⟩
  · exact Or.inl k
  · rcases h with h | ⟨h1, h2⟩
    · exact Or.inl (by rw [k1]; exact h)
    · exact Or.inr ⟨k1.trans h1, k2.trans h2⟩
theorem st_rt {b : β} (h : (π b).1 = I) : STG π I b := by unfold STG; rw [h]; exact st_rf
theorem st_ap {v : γ} {k : γ → β} (h : ∀ z, STG π I (k z)) : STG π I (ap1 v k) := h v
theorem st_if {c : Prop} [Decidable c] {a b : β} (h1 : STG π I a) (h2 : STG π I b) : STG π I (if c then a else b) := by split <;> assumption
theorem st_I {f : Nat} {v : Int32} {k : (Nat → Int32) → β} (h9 : 129 ≠ f) (h0 : 130 ≠ f) (h : ∀ x, STG π x (k x)) : STG π I (ap1 (va_up I f v) k) := st_tr (I1 := va_up I f v) (Or.inr ⟨va_up_ne _ _ h9, va_up_ne _ _ h0⟩) (h _)
theorem st_fr {p : α} {ρ : α → vM} {J : Nat → Int64} {ri : Nat → Nat → Int32} {rj : Nat → Nat → Int64} {rq : Nat → Nat → Option Nat} (h : FRG ρ s (I, J, ri, rj, rq) p) (h9 : 129 ∉ s.1) (h0 : 130 ∉ s.1) : STG ρ I p := Or.inr ⟨h.1 129 h9, h.1 130 h0⟩
theorem st_bI {p : α × vM} {k : α → (Nat → Int32) → (Nat → Int64) → (Nat → Nat → Int32) → (Nat → Nat → Int64) → (Nat → Nat → Option Nat) → β} (hp : STG Prod.snd I p) (h : ∀ r I J ri rj rq, STG π I (k r I J ri rj rq)) : STG π I (bnI p k) := st_tr hp (h _ _ _ _ _ _)
theorem st_bV {p : vM} {k : (Nat → Int32) → (Nat → Int64) → (Nat → Nat → Int32) → (Nat → Nat → Int64) → (Nat → Nat → Option Nat) → β} (hp : STG id I p) (h : ∀ I J ri rj rq, STG π I (k I J ri rj rq)) : STG π I (bnV p k) := st_tr hp (h _ _ _ _ _)
theorem st_b0 {p : α × vM} {k : α → (Nat → Int32) → (Nat → Int64) → (Nat → Nat → Int32) → (Nat → Nat → Int64) → (Nat → Nat → Option Nat) → β} (h : ∀ r I1 J ri rj rq, STG π I (k r I1 J ri rj rq)) : STG π I (bnI p k) := h _ _ _ _ _ _
end STS
theorem g_X4_refuse_s {a0 : Int32} {I : Nat → Int32} {J : Nat → Int64} {ri : Nat → Nat → Int32} {rj : Nat → Nat → Int64} {rq : Nat → Nat → Option Nat} (ha : a0 ≠ 0) : STG id I (g_X4_refuse a0 I J ri rj rq) := by
  rw [g_X4_refuse_e]
  by_cases c : I 129 = 0
  · refine Or.inl ?_
    show (ite (I 129 = 0) _ _ : vM).1 129 ≠ 0
    rw [if_pos c]
    show va_up (va_up I 129 a0) 130 (va_up I 129 a0 195) 129 ≠ 0
    rw [va_up_ne _ _ (show (129 : Nat) ≠ 130 by decide), va_up_self]
    exact ha
  · refine Or.inr ?_
    show (ite (I 129 = 0) _ _ : vM).1 129 = _ ∧ (ite (I 129 = 0) _ _ : vM).1 130 = _
    rw [if_neg c]
    exact ⟨rfl, rfl⟩
theorem g_X4_openUp_s {a0 : Int32} {I : Nat → Int32} {J : Nat → Int64} {ri : Nat → Nat → Int32} {rj : Nat → Nat → Int64} {rq : Nat → Nat → Option Nat}  : STG id I (g_X4_openUp  a0 I J ri rj rq) := by
  rw [g_X4_openUp_e]
  refine st_ap (fun y_1 => ?_)
  refine st_if ?_ ?_
  · refine st_ap (fun x_9 => ?_)
    refine st_I (by decide) (by decide) (fun I_11 => ?_)
    refine st_if ?_ ?_
    · refine st_ap (fun y_67 => ?_)
      refine st_ap (fun x_68 => ?_)
      refine st_I (by decide) (by decide) (fun I_69 => ?_)
      refine st_I (by decide) (by decide) (fun I_77 => ?_)
      refine st_bV (st_fr g_X4_await_f (by decide) (by decide)) (fun I_83 _ ri_84 _ _ => ?_)
      exact st_rt rfl
    · refine st_if ?_ ?_
      · refine st_I (by decide) (by decide) (fun I_46 => ?_)
        refine st_bV (st_fr g_X4_await_f (by decide) (by decide)) (fun I_52 _ ri_53 _ _ => ?_)
        exact st_rt rfl
      · refine st_I (by decide) (by decide) (fun I_25 => ?_)
        refine st_bV (st_fr g_X4_await_f (by decide) (by decide)) (fun I_31 _ ri_32 _ _ => ?_)
        exact st_rt rfl
  · refine st_bV (g_X4_refuse_s (by decide)) (fun I_101 _ _ _ _ => ?_)
    refine st_ap (fun y_111 => ?_)
    refine st_ap (fun x_112 => ?_)
    refine st_I (by decide) (by decide) (fun I_113 => ?_)
    refine st_if ?_ ?_
    · refine st_ap (fun y_169 => ?_)
      refine st_ap (fun x_170 => ?_)
      refine st_I (by decide) (by decide) (fun I_171 => ?_)
      refine st_I (by decide) (by decide) (fun I_179 => ?_)
      refine st_bV (st_fr g_X4_await_f (by decide) (by decide)) (fun I_185 _ ri_186 _ _ => ?_)
      exact st_rt rfl
    · refine st_if ?_ ?_
      · refine st_I (by decide) (by decide) (fun I_148 => ?_)
        refine st_bV (st_fr g_X4_await_f (by decide) (by decide)) (fun I_154 _ ri_155 _ _ => ?_)
        exact st_rt rfl
      · refine st_I (by decide) (by decide) (fun I_127 => ?_)
        refine st_bV (st_fr g_X4_await_f (by decide) (by decide)) (fun I_133 _ ri_134 _ _ => ?_)
        exact st_rt rfl

theorem g_X4_readOne_s {I : Nat → Int32} {J : Nat → Int64} {ri : Nat → Nat → Int32} {rj : Nat → Nat → Int64} {rq : Nat → Nat → Option Nat}  : STG Prod.snd I (g_X4_readOne  I J ri rj rq) := by
  rw [g_X4_readOne_e]
  refine st_ap (fun y_1 => ?_)
  refine st_if ?_ ?_
  · refine st_ap (fun y_172 => ?_)
    refine st_if ?_ ?_
    · refine st_bV (st_fr g_X4_emit_f (by decide) (by decide)) (fun I_182 _ ri_183 _ _ => ?_)
      exact st_rt rfl
    · refine st_bV (g_X4_refuse_s (by decide)) (fun I_201 _ _ _ _ => ?_)
      refine st_ap (fun y_213 => ?_)
      refine st_bV (st_fr g_X4_emit_f (by decide) (by decide)) (fun I_216 _ ri_217 _ _ => ?_)
      exact st_rt rfl
  · refine st_ap (fun x_7 => ?_)
    refine st_if ?_ ?_
    · refine st_if ?_ ?_
      · refine st_bV g_X4_openUp_s (fun I_38 _ ri_39 _ _ => ?_)
        exact st_rt rfl
      · refine st_if ?_ ?_
        · refine st_bV g_X4_openUp_s (fun I_65 _ ri_66 _ _ => ?_)
          exact st_rt rfl
        · refine st_if ?_ ?_
          · refine st_ap (fun y_103 => ?_)
            refine st_if ?_ ?_
            · refine st_bV (g_X4_refuse_s (by decide)) (fun I_113 _ _ _ _ => ?_)
              exact st_rt rfl
            · refine st_bV g_X4_openUp_s (fun I_133 _ ri_134 _ _ => ?_)
              exact st_rt rfl
          · refine st_bV (g_X4_refuse_s (by decide)) (fun I_88 _ _ _ _ => ?_)
            exact st_rt rfl
    · refine st_ap (fun x_151 => ?_)
      refine st_bV (st_fr g_X4_emit_f (by decide) (by decide)) (fun I_155 _ ri_156 _ _ => ?_)
      exact st_rt rfl

theorem g_X4_readBehindOne_s {I : Nat → Int32} {J : Nat → Int64} {ri : Nat → Nat → Int32} {rj : Nat → Nat → Int64} {rq : Nat → Nat → Option Nat}  : STG Prod.snd I (g_X4_readBehindOne  I J ri rj rq) := by
  rw [g_X4_readBehindOne_e]
  refine st_ap (fun y_1 => ?_)
  refine st_I (by decide) (by decide) (fun I_2 => ?_)
  refine st_if ?_ ?_
  · refine st_ap (fun y_15 => ?_)
    refine st_if ?_ ?_
    · refine st_ap (fun y_24 => ?_)
      refine st_if ?_ ?_
      · refine st_if ?_ ?_
        · refine st_bV (g_X4_refuse_s (by decide)) (fun I_220 _ _ _ _ => ?_)
          refine st_bV (st_fr g_X4_settle_f (by decide) (by decide)) (fun I_234 _ ri_235 _ _ => ?_)
          refine st_I (by decide) (by decide) (fun I_248 => ?_)
          exact st_rt rfl
        · refine st_I (by decide) (by decide) (fun I_263 => ?_)
          refine st_ap (fun x_269 => ?_)
          refine st_bV (st_fr g_X4_settle_f (by decide) (by decide)) (fun I_278 _ ri_279 _ _ => ?_)
          refine st_bV (st_fr g_X4_await_f (by decide) (by decide)) (fun I_294 _ ri_295 _ _ => ?_)
          exact st_rt rfl
      · refine st_if ?_ ?_
        · refine st_I (by decide) (by decide) (fun I_43 => ?_)
          refine st_I (by decide) (by decide) (fun I_49 => ?_)
          refine st_ap (fun x_55 => ?_)
          refine st_bV (st_fr g_X4_settle_f (by decide) (by decide)) (fun I_64 _ ri_65 _ _ => ?_)
          refine st_bV (st_fr g_X4_await_f (by decide) (by decide)) (fun I_80 _ ri_81 _ _ => ?_)
          exact st_rt rfl
        · refine st_if ?_ ?_
          · refine st_I (by decide) (by decide) (fun I_149 => ?_)
            refine st_I (by decide) (by decide) (fun I_155 => ?_)
            refine st_ap (fun x_161 => ?_)
            refine st_bV (st_fr g_X4_settle_f (by decide) (by decide)) (fun I_170 _ ri_171 _ _ => ?_)
            refine st_bV (st_fr g_X4_await_f (by decide) (by decide)) (fun I_186 _ ri_187 _ _ => ?_)
            exact st_rt rfl
          · refine st_bV (g_X4_refuse_s (by decide)) (fun I_113 _ _ _ _ => ?_)
            refine st_bV (st_fr g_X4_settle_f (by decide) (by decide)) (fun I_127 _ ri_128 _ _ => ?_)
            refine st_I (by decide) (by decide) (fun I_141 => ?_)
            exact st_rt rfl
    · refine st_bV (g_X4_refuse_s (by decide)) (fun I_318 _ _ _ _ => ?_)
      refine st_bV (st_fr g_X4_settle_f (by decide) (by decide)) (fun I_332 _ ri_333 _ _ => ?_)
      refine st_ap (fun y_346 => ?_)
      refine st_ap (fun x_347 => ?_)
      refine st_I (by decide) (by decide) (fun I_348 => ?_)
      refine st_ap (fun y_354 => ?_)
      refine st_ap (fun x_355 => ?_)
      refine st_I (by decide) (by decide) (fun I_356 => ?_)
      refine st_ap (fun y_363 => ?_)
      refine st_ap (fun x_364 => ?_)
      refine st_ap (fun x_366 => ?_)
      refine st_I (by decide) (by decide) (fun I_368 => ?_)
      exact st_rt rfl
  · refine st_if ?_ ?_
    · refine st_ap (fun y_383 => ?_)
      refine st_if ?_ ?_
      · refine st_ap (fun y_392 => ?_)
        refine st_if ?_ ?_
        · refine st_bV (g_X4_refuse_s (by decide)) (fun I_506 _ _ _ _ => ?_)
          refine st_bV (st_fr g_X4_settle_f (by decide) (by decide)) (fun I_520 _ ri_521 _ _ => ?_)
          refine st_I (by decide) (by decide) (fun I_534 => ?_)
          exact st_rt rfl
        · refine st_if ?_ ?_
          · refine st_bV (st_fr g_X4_settle_f (by decide) (by decide)) (fun I_427 _ ri_428 _ _ => ?_)
            refine st_I (by decide) (by decide) (fun I_441 => ?_)
            exact st_rt rfl
          · refine st_bV (g_X4_refuse_s (by decide)) (fun I_450 _ _ _ _ => ?_)
            refine st_bV (st_fr g_X4_settle_f (by decide) (by decide)) (fun I_464 _ ri_465 _ _ => ?_)
            refine st_I (by decide) (by decide) (fun I_478 => ?_)
            exact st_rt rfl
      · refine st_if ?_ ?_
        · refine st_bV (st_fr g_X4_settle_f (by decide) (by decide)) (fun I_553 _ ri_554 _ _ => ?_)
          refine st_ap (fun y_567 => ?_)
          refine st_ap (fun x_568 => ?_)
          refine st_I (by decide) (by decide) (fun I_569 => ?_)
          refine st_ap (fun y_575 => ?_)
          refine st_ap (fun x_576 => ?_)
          refine st_I (by decide) (by decide) (fun I_577 => ?_)
          refine st_ap (fun y_584 => ?_)
          refine st_ap (fun x_585 => ?_)
          refine st_ap (fun x_587 => ?_)
          refine st_I (by decide) (by decide) (fun I_589 => ?_)
          exact st_rt rfl
        · refine st_bV (g_X4_refuse_s (by decide)) (fun I_598 _ _ _ _ => ?_)
          refine st_bV (st_fr g_X4_settle_f (by decide) (by decide)) (fun I_612 _ ri_613 _ _ => ?_)
          refine st_ap (fun y_626 => ?_)
          refine st_ap (fun x_627 => ?_)
          refine st_I (by decide) (by decide) (fun I_628 => ?_)
          refine st_ap (fun y_634 => ?_)
          refine st_ap (fun x_635 => ?_)
          refine st_I (by decide) (by decide) (fun I_636 => ?_)
          refine st_ap (fun y_643 => ?_)
          refine st_ap (fun x_644 => ?_)
          refine st_ap (fun x_646 => ?_)
          refine st_I (by decide) (by decide) (fun I_648 => ?_)
          exact st_rt rfl
    · refine st_ap (fun x_656 => ?_)
      refine st_bV (st_fr g_X4_settle_f (by decide) (by decide)) (fun I_665 _ ri_666 _ _ => ?_)
      refine st_bV (st_fr g_X4_await_f (by decide) (by decide)) (fun I_681 _ ri_682 _ _ => ?_)
      exact st_rt rfl

theorem g_X4_readEither_L34_s {J : Nat → Int64} {rj : Nat → Nat → Int64} {rq : Nat → Nat → Option Nat}  : ∀ (n_1571 : Nat) (x_1489 : Int32) (x_1490 : Int32) (I_1491 : Nat → Int32) (ri_1492 : Nat → Nat → Int32), STG id I_1491 (g_X4_readEither_L34 J rj rq n_1571 x_1489 x_1490 I_1491 ri_1492) := by
  intro n_1571
  induction n_1571 with
  | zero => intros; exact st_rt rfl
  | succ n_1571 ih =>
    intro x_1489 x_1490 I_1491 ri_1492
    rw [g_X4_readEither_L34_e]
    refine st_if ?_ ?_
    · exact st_rt rfl
    · refine st_ap (fun y_1591 => ?_)
      refine st_if ?_ ?_
      · refine st_ap (fun y_1600 => ?_)
        refine st_if ?_ ?_
        · refine st_bV (st_fr g_X6_advance_f (by decide) (by decide)) (fun I_1612 _ _ _ _ => ?_)
          refine st_if ?_ ?_
          · refine st_bI g_X4_readBehindOne_s (fun x_1632 I_1634 _ ri_1635 _ _ => ?_)
            refine st_ap (fun x_1648 => ?_)
            exact ih _ _ _ _
          · refine st_bI g_X4_readOne_s (fun x_1652 I_1654 _ ri_1655 _ _ => ?_)
            refine st_ap (fun x_1668 => ?_)
            exact ih _ _ _ _
        · exact st_rt rfl
      · exact st_rt rfl
theorem g_X4_readEither_s {I : Nat → Int32} {J : Nat → Int64} {ri : Nat → Nat → Int32} {rj : Nat → Nat → Int64} {rq : Nat → Nat → Option Nat}  : STG id I (g_X4_readEither  I J ri rj rq) := by
  rw [g_X4_readEither_e]
  refine st_I (by decide) (by decide) (fun I_1 => ?_)
  refine st_I (by decide) (by decide) (fun I_7 => ?_)
  refine st_I (by decide) (by decide) (fun I_13 => ?_)
  refine st_I (by decide) (by decide) (fun I_19 => ?_)
  refine st_I (by decide) (by decide) (fun I_25 => ?_)
  refine st_I (by decide) (by decide) (fun I_31 => ?_)
  exact g_X4_readEither_L34_s  _ _ _ _ _

theorem g_X4_expectSemicolon_s {I : Nat → Int32} {J : Nat → Int64} {ri : Nat → Nat → Int32} {rj : Nat → Nat → Int64} {rq : Nat → Nat → Option Nat}  : STG id I (g_X4_expectSemicolon  I J ri rj rq) := by
  rw [g_X4_expectSemicolon_e]
  refine st_ap (fun y_2 => ?_)
  refine st_if ?_ ?_
  · exact st_rt rfl
  · refine st_bV (g_X4_refuse_s (by decide)) (fun I_12 _ _ _ _ => ?_)
    exact st_rt rfl

theorem g_X4_readNumber_s {a0 : Int32} {I : Nat → Int32} {J : Nat → Int64} {ri : Nat → Nat → Int32} {rj : Nat → Nat → Int64} {rq : Nat → Nat → Option Nat}  : STG id I (g_X4_readNumber  a0 I J ri rj rq) := by
  rw [g_X4_readNumber_e]
  refine st_bV (st_fr g_X6_advance_f (by decide) (by decide)) (fun I_3 _ _ _ _ => ?_)
  refine st_ap (fun y_16 => ?_)
  refine st_if ?_ ?_
  · refine st_ap (fun y_23 => ?_)
    refine st_if ?_ ?_
    · refine st_bV (st_fr g_X4_emit_f (by decide) (by decide)) (fun I_32 _ ri_33 _ _ => ?_)
      refine st_bV (st_fr g_X6_advance_f (by decide) (by decide)) (fun I_49 _ _ _ _ => ?_)
      refine st_bV g_X4_expectSemicolon_s (fun I_64 _ _ _ _ => ?_)
      exact st_rt rfl
    · refine st_bV (g_X4_refuse_s (by decide)) (fun I_81 _ _ _ _ => ?_)
      exact st_rt rfl
  · refine st_bV (g_X4_refuse_s (by decide)) (fun I_96 _ _ _ _ => ?_)
    exact st_rt rfl

theorem g_X4_readKey_s {a0 : Int32} {I : Nat → Int32} {J : Nat → Int64} {ri : Nat → Nat → Int32} {rj : Nat → Nat → Int64} {rq : Nat → Nat → Option Nat}  : STG id I (g_X4_readKey  a0 I J ri rj rq) := by
  rw [g_X4_readKey_e]
  refine st_ap (fun y_1 => ?_)
  refine st_if ?_ ?_
  · refine st_if ?_ ?_
    · refine st_bV (st_fr g_X6_advance_f (by decide) (by decide)) (fun I_137 _ _ _ _ => ?_)
      refine st_ap (fun y_150 => ?_)
      refine st_ap (fun x_151 => ?_)
      refine st_if ?_ ?_
      · refine st_bV (g_X4_refuse_s (by decide)) (fun I_194 _ _ _ _ => ?_)
        refine st_ap (fun y_207 => ?_)
        refine st_ap (fun x_208 => ?_)
        refine st_bV (st_fr g_X4_emit_f (by decide) (by decide)) (fun I_211 _ ri_212 _ _ => ?_)
        exact st_rt rfl
      · refine st_ap (fun x_170 => ?_)
        refine st_bV (st_fr g_X4_emit_f (by decide) (by decide)) (fun I_174 _ ri_175 _ _ => ?_)
        exact st_rt rfl
    · refine st_bV (g_X4_refuse_s (by decide)) (fun I_230 _ _ _ _ => ?_)
      refine st_ap (fun y_244 => ?_)
      refine st_ap (fun x_245 => ?_)
      refine st_bV (st_fr g_X4_emit_f (by decide) (by decide)) (fun I_249 _ ri_250 _ _ => ?_)
      exact st_rt rfl
  · refine st_ap (fun x_8 => ?_)
    refine st_if ?_ ?_
    · refine st_bV (g_X4_refuse_s (by decide)) (fun I_93 _ _ _ _ => ?_)
      refine st_ap (fun y_106 => ?_)
      refine st_bV (st_fr g_X4_emit_f (by decide) (by decide)) (fun I_109 _ ri_110 _ _ => ?_)
      exact st_rt rfl
    · refine st_if ?_ ?_
      · refine st_bV (st_fr g_X4_emit_f (by decide) (by decide)) (fun I_37 _ ri_38 _ _ => ?_)
        exact st_rt rfl
      · refine st_bV (g_X4_refuse_s (by decide)) (fun I_56 _ _ _ _ => ?_)
        refine st_ap (fun y_70 => ?_)
        refine st_bV (st_fr g_X4_emit_f (by decide) (by decide)) (fun I_73 _ ri_74 _ _ => ?_)
        exact st_rt rfl

theorem g_X4_readKeys_L4_s {J : Nat → Int64} {rj : Nat → Nat → Int64} {rq : Nat → Nat → Option Nat}  : ∀ (n_777 : Nat) (x_650 : Int32) (x_651 : Int32) (I_652 : Nat → Int32) (ri_653 : Nat → Nat → Int32), STG id I_652 (g_X4_readKeys_L4 J rj rq n_777 x_650 x_651 I_652 ri_653) := by
  intro n_777
  induction n_777 with
  | zero => intros; exact st_rt rfl
  | succ n_777 ih =>
    intro x_650 x_651 I_652 ri_653
    rw [g_X4_readKeys_L4_e]
    refine st_if ?_ ?_
    · refine st_bV g_X4_expectSemicolon_s (fun I_797 _ _ _ _ => ?_)
      exact st_rt rfl
    · refine st_if ?_ ?_
      · refine st_bV g_X4_expectSemicolon_s (fun I_820 _ _ _ _ => ?_)
        exact st_rt rfl
      · refine st_ap (fun y_834 => ?_)
        refine st_if ?_ ?_
        · refine st_bV (st_fr g_X6_advance_f (by decide) (by decide)) (fun I_858 _ _ _ _ => ?_)
          refine st_bV g_X4_readKey_s (fun I_873 _ ri_874 _ _ => ?_)
          refine st_ap (fun x_885 => ?_)
          refine st_ap (fun y_887 => ?_)
          refine st_if ?_ ?_
          · refine st_bV (st_fr g_X6_advance_f (by decide) (by decide)) (fun I_905 _ _ _ _ => ?_)
            refine st_ap (fun y_918 => ?_)
            refine st_if ?_ ?_
            · exact ih _ _ _ _
            · exact ih _ _ _ _
          · refine st_ap (fun y_893 => ?_)
            refine st_if ?_ ?_
            · exact ih _ _ _ _
            · exact ih _ _ _ _
        · refine st_bV g_X4_expectSemicolon_s (fun I_842 _ _ _ _ => ?_)
          exact st_rt rfl
theorem g_X4_readKeys_s {I : Nat → Int32} {J : Nat → Int64} {ri : Nat → Nat → Int32} {rj : Nat → Nat → Int64} {rq : Nat → Nat → Option Nat}  : STG id I (g_X4_readKeys  I J ri rj rq) := by
  rw [g_X4_readKeys_e]
  exact g_X4_readKeys_L4_s  _ _ _ _ _

theorem g_X4_readClause_s {I : Nat → Int32} {J : Nat → Int64} {ri : Nat → Nat → Int32} {rj : Nat → Nat → Int64} {rq : Nat → Nat → Option Nat}  : STG id I (g_X4_readClause  I J ri rj rq) := by
  rw [g_X4_readClause_e]
  refine st_ap (fun y_1 => ?_)
  refine st_if ?_ ?_
  · refine st_if ?_ ?_
    · refine st_ap (fun y_17 => ?_)
      refine st_if ?_ ?_
      · refine st_ap (fun r_26 => ?_)
        refine st_ap (fun x_27 => ?_)
        refine st_I (by decide) (by decide) (fun I_29 => ?_)
        refine st_bV g_X4_readEither_s (fun I_43 _ ri_44 _ _ => ?_)
        refine st_ap (fun y_56 => ?_)
        refine st_ap (fun y_58 => ?_)
        refine st_ap (fun r_59 => ?_)
        exact st_rt rfl
      · refine st_bV (g_X4_refuse_s (by decide)) (fun I_64 _ _ _ _ => ?_)
        exact st_rt rfl
    · refine st_b0 (fun x_79 _ _ _ _ _ => ?_)
      refine st_if ?_ ?_
      · refine st_ap (fun y_95 => ?_)
        refine st_if ?_ ?_
        · refine st_ap (fun r_104 => ?_)
          refine st_ap (fun x_105 => ?_)
          refine st_I (by decide) (by decide) (fun I_107 => ?_)
          refine st_if ?_ ?_
          · refine st_ap (fun x_125 => ?_)
            refine st_bV g_X4_readNumber_s (fun I_134 _ ri_135 _ _ => ?_)
            refine st_ap (fun y_148 => ?_)
            refine st_ap (fun y_150 => ?_)
            refine st_ap (fun r_151 => ?_)
            exact st_rt rfl
          · refine st_bV g_X4_readKeys_s (fun I_156 _ ri_157 _ _ => ?_)
            refine st_ap (fun y_170 => ?_)
            refine st_ap (fun y_172 => ?_)
            refine st_ap (fun r_173 => ?_)
            exact st_rt rfl
        · refine st_bV (g_X4_refuse_s (by decide)) (fun I_179 _ _ _ _ => ?_)
          exact st_rt rfl
      · refine st_bV (g_X4_refuse_s (by decide)) (fun I_196 _ _ _ _ => ?_)
        exact st_rt rfl
  · refine st_bV (g_X4_refuse_s (by decide)) (fun I_213 _ _ _ _ => ?_)
    exact st_rt rfl
/-! ===== levels: the last that was told, the worst; both ways to look for them answer the same ===== -/
def lst (r m t : Nat → Int32) (R M K : Int32) : Nat → Option Nat
  | 0 => none
  | n + 1 => if r n = R ∧ m n = M ∧ t n ≤ K then some n else lst r m t R M K n
def olk (v : Nat → Int32) : Option Nat → Int32
  | none => -6000
  | some k => v k
def kwo (r v t : Nat → Int32) (R K : Int32) : Nat → Int32
  | 0 => -6000
  | n + 1 => if r n = R ∧ t n ≤ K then (if kwo r v t R K n < v n then v n else kwo r v t R K n) else kwo r v t R K n
def wst (r f w t : Nat → Int32) (R K : Int32) : Nat → Int32 × Bool
  | 0 => (0, false)
  | n + 1 => if r n = R ∧ f n ≠ 0 ∧ t n ≤ K ∧ ((wst r f w t R K n).2 = false ∨ (wst r f w t R K n).1 < w n) then (w n, true) else wst r f w t R K n
def mnn (a b : Int32) : Int32 := if -5000 < a.toInt then (if -5000 < b.toInt then (a + b) / 2 else a) else b
def fin4 (o a b w : Int32) : Int32 := if -5000 < o.toInt then o else if o.toInt = -5000 ∧ (-5000 < a.toInt ∨ -5000 < b.toInt) then mnn a b else if -5000 < w.toInt then w else 0
/-- the class's answer, from its four rows -/
def kfin (r m v t : Nat → Int32) (R M K : Int32) (n : Nat) : Int32 := fin4 (olk v (lst r m t R M K n)) (olk v (lst r m t R (M - 1) K n)) (olk v (lst r m t R (M + 1) K n)) (kwo r v t R K n)
/-- a number that was told there -/
def nmb (f w : Nat → Int32) : Option Nat → Option Int32
  | none => none
  | some k => if f k = 1 then some (w k) else none
def rfin (r m f w t : Nat → Int32) (R M K : Int32) (n : Nat) : Int32 := match lst r m t R M K n with
  | none => (wst r f w t R K n).1
  | some k => if f k = 1 then w k else match nmb f w (lst r m t R (M - 1) K n), nmb f w (lst r m t R (M + 1) K n) with
    | some a, some b => (a + b) / 2
    | some a, none => a
    | none, some b => b
    | none, none => (wst r f w t R K n).1
theorem lst_e (r m t : Nat → Int32) (R M K : Int32) (n : Nat) : lst r m t R M K (n + 1) = if r n = R ∧ m n = M ∧ t n ≤ K then some n else lst r m t R M K n := rfl
theorem kwo_e (r v t : Nat → Int32) (R K : Int32) (n : Nat) : kwo r v t R K (n + 1) = if r n = R ∧ t n ≤ K then (if kwo r v t R K n < v n then v n else kwo r v t R K n) else kwo r v t R K n := rfl
theorem wst_e (r f w t : Nat → Int32) (R K : Int32) (n : Nat) : wst r f w t R K (n + 1) = if r n = R ∧ f n ≠ 0 ∧ t n ≤ K ∧ ((wst r f w t R K n).2 = false ∨ (wst r f w t R K n).1 < w n) then (w n, true) else wst r f w t R K n := rfl
section LEV
variable {r m v t f w r2 m2 t2 : Nat → Int32} {R M K : Int32} {n n2 : Nat}
/-- the rows of both sides, up to n -/
def LVR (r m v t r2 m2 f w t2 : Nat → Int32) (n : Nat) : Prop := ∀ k, k < n → r k = r2 k ∧ m k = m2 k ∧ t k = t2 k ∧ (((f k).toInt = 0 ∧ (v k).toInt = -5000) ∨ ((f k).toInt = 1 ∧ v k = w k ∧ -1000 ≤ (w k).toInt ∧ (w k).toInt ≤ 5000))
theorem LVR_le (h : LVR r m v t r2 m2 f w t2 n) (k : n2 ≤ n) : LVR r m v t r2 m2 f w t2 n2 := fun j hj => h j (Nat.lt_of_lt_of_le hj k)
theorem lst_lt : ∀ (n : Nat) {k : Nat}, lst r m t R M K n = some k → k < n
  | 0, k, h => by cases h
  | n + 1, k, h => by
    rw [lst_e] at h
    split at h
    · cases h; exact Nat.lt_succ_self _
    · exact Nat.lt_succ_of_lt (lst_lt n h)
theorem lst_eq : ∀ (n : Nat), LVR r m v t r2 m2 f w t2 n → lst r m t R M K n = lst r2 m2 t2 R M K n
  | 0, _ => rfl
  | n + 1, h => by
    obtain ⟨h1, h2, h3, -⟩ := h n (Nat.lt_succ_self n)
    rw [lst_e, lst_e, h1, h2, h3, lst_eq n (LVR_le h (Nat.le_succ n))]
theorem wst_eq : ∀ (n : Nat), LVR r m v t r2 m2 f w t2 n → ((wst r2 f w t2 R K n).2 = true ∧ kwo r v t R K n = (wst r2 f w t2 R K n).1 ∧ -1000 ≤ (kwo r v t R K n).toInt) ∨ ((wst r2 f w t2 R K n).2 = false ∧ (wst r2 f w t2 R K n).1 = 0 ∧ (kwo r v t R K n).toInt ≤ -5000)
  | 0, _ => Or.inr ⟨rfl, rfl, by show (-6000 : Int32).toInt ≤ -5000; decide⟩
  | n + 1, h => by
    obtain ⟨h1, h2, h3, h4⟩ := h n (Nat.lt_succ_self n)
    have ih := wst_eq n (LVR_le h (Nat.le_succ n))
    rw [wst_e, kwo_e]
    rw [h1, h3]
    generalize hk : kwo r v t R K n = kk at ih ⊢
    generalize hw : wst r2 f w t2 R K n = ww at ih ⊢
    obtain ⟨w1, w2⟩ := ww
    by_cases c1 : r2 n = R ∧ t2 n ≤ K
    · rw [if_pos c1]
      rcases h4 with ⟨f0, v0⟩ | ⟨f1, v1, v2, v3⟩
      · have fz : f n = 0 := Int32.toInt_inj.mp (by rw [f0]; rfl)
        rw [if_neg (fun q => q.2.1 fz)]
        rcases ih with ⟨i1, i2, i3⟩ | ⟨i1, i2, i3⟩
        · rw [if_neg (fun q => by rw [Int32.lt_iff_toInt_lt] at q; omega)]
          exact Or.inl ⟨i1, i2, i3⟩
        · refine Or.inr ⟨i1, i2, ?_⟩
          split
          · omega
          · exact i3
      · have fz : f n ≠ 0 := fun q => by rw [q] at f1; exact absurd f1 (by decide)
        rcases ih with ⟨i1, i2, i3⟩ | ⟨i1, i2, i3⟩
        · by_cases c2 : w1 < w n
          · rw [if_pos ⟨c1.1, fz, c1.2, Or.inr c2⟩, v1, i2, if_pos c2]
            exact Or.inl ⟨rfl, rfl, v2⟩
          · rw [if_neg (fun q => by rcases q.2.2.2 with y | y; exact absurd (i1.symm.trans y) (by decide); exact c2 y), v1, i2, if_neg c2]
            exact Or.inl ⟨i1, rfl, by rw [← i2]; exact i3⟩
        · rw [if_pos ⟨c1.1, fz, c1.2, Or.inl i1⟩, v1, if_pos (by rw [Int32.lt_iff_toInt_lt]; omega)]
          exact Or.inl ⟨rfl, rfl, v2⟩
    · rw [if_neg c1, if_neg (fun q => c1 ⟨q.1, q.2.2.1⟩)]
      exact ih
theorem olk_nmb (h : LVR r m v t r2 m2 f w t2 n) (o : Option Nat) (ho : ∀ k, o = some k → k < n) : (-5000 < (olk v o).toInt ∧ nmb f w o = some (olk v o)) ∨ ((olk v o).toInt ≤ -5000 ∧ nmb f w o = none) := by
  cases o with
  | none => exact Or.inr ⟨by show (-6000 : Int32).toInt ≤ -5000; decide, rfl⟩
  | some k =>
    obtain ⟨-, -, -, h4⟩ := h k (ho k rfl)
    show (-5000 < (v k).toInt ∧ (if f k = 1 then some (w k) else none) = some (v k)) ∨ ((v k).toInt ≤ -5000 ∧ (if f k = 1 then some (w k) else none) = none)
    rcases h4 with ⟨f0, v0⟩ | ⟨f1, v1, v2, v3⟩
    · rw [if_neg (fun q => by rw [q] at f0; exact absurd f0 (by decide))]
      exact Or.inr ⟨by omega, rfl⟩
    · rw [if_pos (Int32.toInt_inj.mp (by rw [f1]; rfl)), v1]
      exact Or.inl ⟨by omega, rfl⟩
/-- both answer the same -/
theorem fin_eq (h : LVR r m v t r2 m2 f w t2 n) : kfin r m v t R M K n = rfin r2 m2 f w t2 R M K n := by
  unfold kfin rfin
  rw [lst_eq n h, lst_eq n h, lst_eq n h]
  have hw := wst_eq (R := R) (K := K) n h
  have ha := olk_nmb h (lst r2 m2 t2 R (M - 1) K n) (fun k q => lst_lt n q)
  have hb := olk_nmb h (lst r2 m2 t2 R (M + 1) K n) (fun k q => lst_lt n q)
  have ho := fun k (q : lst r2 m2 t2 R M K n = some k) => h k (lst_lt n q)
  generalize olk v (lst r2 m2 t2 R (M - 1) K n) = xa at ha ⊢
  generalize olk v (lst r2 m2 t2 R (M + 1) K n) = xb at hb ⊢
  generalize nmb f w (lst r2 m2 t2 R (M - 1) K n) = na at ha ⊢
  generalize nmb f w (lst r2 m2 t2 R (M + 1) K n) = nb at hb ⊢
  generalize lst r2 m2 t2 R M K n = oo at ho ⊢
  generalize kwo r v t R K n = kk at hw ⊢
  generalize wst r2 f w t2 R K n = ww at hw ⊢
  have hwr : (if -5000 < kk.toInt then kk else (0 : Int32)) = ww.1 := by
    rcases hw with ⟨i1, i2, i3⟩ | ⟨i1, i2, i3⟩
    · rw [if_pos (by omega), i2]
    · rw [if_neg (by omega), i2]
  cases oo with
  | none =>
    have z : (olk v none).toInt = -6000 := rfl
    show fin4 (olk v none) xa xb kk = ww.1
    unfold fin4
    rw [if_neg (by omega), if_neg (by omega)]
    exact hwr
  | some k =>
    obtain ⟨-, -, -, h4⟩ := ho k rfl
    show fin4 (v k) xa xb kk = if f k = 1 then w k else _
    unfold fin4
    rcases h4 with ⟨f0, v0⟩ | ⟨f1, v1, v2, v3⟩
    · rw [if_neg (by omega), if_neg (c := f k = 1) (fun q => by rw [q] at f0; exact absurd f0 (by decide))]
      rcases ha with ⟨a1, a2⟩ | ⟨a1, a2⟩ <;> rcases hb with ⟨b1, b2⟩ | ⟨b1, b2⟩ <;> rw [a2, b2]
      · change _ = (xa + xb) / 2
        rw [if_pos ⟨v0, Or.inl a1⟩]; unfold mnn; rw [if_pos a1, if_pos b1]
      · change _ = xa
        rw [if_pos ⟨v0, Or.inl a1⟩]; unfold mnn; rw [if_pos a1, if_neg (by omega)]
      · change _ = xb
        rw [if_pos ⟨v0, Or.inr b1⟩]; unfold mnn; rw [if_neg (by omega)]
      · change _ = ww.1
        rw [if_neg (by omega)]; exact hwr
    · rw [if_pos (by rw [v1]; omega), if_pos (Int32.toInt_inj.mp (by rw [f1]; rfl))]
      exact v1
end LEV
/-! the reference's rows of levels, out of its one row -/
def A5 (f : Nat → Int32) (o k : Nat) : Int32 := f (1220 + o + 5 * k)
section LEV2
variable {r m v t f w : Nat → Int32} {R M K : Int32} {n k : Nat}
theorem rf_none (h : lst r m t R M K n = none) : rfin r m f w t R M K n = (wst r f w t R K n).1 := by
  unfold rfin
  simp only [h]
theorem rf_own (h : lst r m t R M K n = some k) (hf : (f k).toInt = 1) : rfin r m f w t R M K n = w k := by
  unfold rfin
  rw [h]
  exact if_pos (Int32.toInt_inj.mp (by rw [hf]; rfl))
theorem rf_ne (hf : (f k).toInt ≠ 1) : f k ≠ 1 := fun q => hf (by rw [q]; rfl)
theorem nmb_0 {o : Option Nat} (h : o = none) : nmb f w o = none := by rw [h]; rfl
theorem nmb_y {o : Option Nat} (h : o = some k) (hf : (f k).toInt = 1) : nmb f w o = some (w k) := by
  rw [h]
  exact if_pos (Int32.toInt_inj.mp (by rw [hf]; rfl))
theorem nmb_n {o : Option Nat} (h : o = some k) (hf : (f k).toInt ≠ 1) : nmb f w o = none := by
  rw [h]
  exact if_neg (rf_ne hf)
theorem rf_2 {a b : Int32} (h : lst r m t R M K n = some k) (hf : (f k).toInt ≠ 1) (h1 : nmb f w (lst r m t R (M - 1) K n) = some a) (h2 : nmb f w (lst r m t R (M + 1) K n) = some b) : rfin r m f w t R M K n = (a + b) / 2 := by
  unfold rfin
  rw [h, h1, h2]
  exact if_neg (rf_ne hf)
theorem rf_a {a : Int32} (h : lst r m t R M K n = some k) (hf : (f k).toInt ≠ 1) (h1 : nmb f w (lst r m t R (M - 1) K n) = some a) (h2 : nmb f w (lst r m t R (M + 1) K n) = none) : rfin r m f w t R M K n = a := by
  unfold rfin
  rw [h, h1, h2]
  exact if_neg (rf_ne hf)
theorem rf_b {b : Int32} (h : lst r m t R M K n = some k) (hf : (f k).toInt ≠ 1) (h1 : nmb f w (lst r m t R (M - 1) K n) = none) (h2 : nmb f w (lst r m t R (M + 1) K n) = some b) : rfin r m f w t R M K n = b := by
  unfold rfin
  rw [h, h1, h2]
  exact if_neg (rf_ne hf)
theorem rf_0 (h : lst r m t R M K n = some k) (hf : (f k).toInt ≠ 1) (h1 : nmb f w (lst r m t R (M - 1) K n) = none) (h2 : nmb f w (lst r m t R (M + 1) K n) = none) : rfin r m f w t R M K n = (wst r f w t R K n).1 := by
  unfold rfin
  rw [h, h1, h2]
  exact if_neg (rf_ne hf)
end LEV2
/-! ===== pure: numbers, rows by loops ===== -/
section PU1
/-- not by rfl, so that the kernel never holds a chain of ap1 against what it comes to -/
theorem ap1_n {α β : Type} (v : α) (k : α → β) : ap1 v k = k v := of_eq_true (eq_self (k v))
theorem bnI_u {α β : Type} (p : α × vM) (k : α → (Nat → Int32) → (Nat → Int64) → (Nat → Nat → Int32) → (Nat → Nat → Int64) → (Nat → Nat → Option Nat) → β) : bnI p k = k p.1 p.2.1 p.2.2.1 p.2.2.2.1 p.2.2.2.2.1 p.2.2.2.2.2 := of_eq_true (eq_self (k p.1 p.2.1 p.2.2.1 p.2.2.2.1 p.2.2.2.2.1 p.2.2.2.2.2))
theorem bnV_u {β : Type} (p : vM) (k : (Nat → Int32) → (Nat → Int64) → (Nat → Nat → Int32) → (Nat → Nat → Int64) → (Nat → Nat → Option Nat) → β) : bnV p k = k p.1 p.2.1 p.2.2.1 p.2.2.2.1 p.2.2.2.2 := of_eq_true (eq_self (k p.1 p.2.1 p.2.2.1 p.2.2.2.1 p.2.2.2.2))
theorem t1_inc {x : Int32} (h0 : -2147483648 ≤ x.toInt) (h1 : x.toInt < 2147483647) : (x + Int32.ofInt 1).toInt = x.toInt + 1 := i_add rfl (show (Int32.ofInt 1).toInt = 1 by decide) (by omega) (by omega)
theorem t1_one {x : Int32} (h0 : -2147483648 ≤ x.toInt) (h1 : x.toInt < 2147483647) : (x + 1).toInt = x.toInt + 1 := i_add rfl (show (1 : Int32).toInt = 1 by decide) (by omega) (by omega)
theorem ixc {c : Int32} (h0 : 0 ≤ c.toInt) (h1 : c.toInt ≤ 39) : ((100 : Int32) + (16 : Int32) * c).toInt = 100 + 16 * c.toInt := i_add (show (100 : Int32).toInt = 100 by decide) (i_mul (show (16 : Int32).toInt = 16 by decide) rfl (by omega) (by omega)) (by omega) (by omega)
theorem ixk {c k : Int32} (m : Nat) (hk : k.toInt = (m : Int)) (hm : m ≤ 15) (h0 : 0 ≤ c.toInt) (h1 : c.toInt ≤ 39) : ((100 : Int32) + (16 : Int32) * c + k).toNatClampNeg = 100 + 16 * c.toNatClampNeg + m := by
  have e := i_add (ixc h0 h1) hk (by omega) (by omega)
  have z := clampE ((100 : Int32) + (16 : Int32) * c + k)
  have z1 := clampE c
  omega
theorem ixt {x k : Int32} (m : Nat) (hk : k.toInt = (m : Int)) (hm : m ≤ 4) (h0 : 0 ≤ x.toInt) (h1 : x.toInt ≤ 11) : ((20 : Int32) + (5 : Int32) * x + k).toNatClampNeg = 20 + 5 * x.toNatClampNeg + m := by
  have e := i_add (i_add (show (20 : Int32).toInt = 20 by decide) (i_mul (y := x) (show (5 : Int32).toInt = 5 by decide) rfl (by omega) (by omega)) (by omega) (by omega)) hk (by omega) (by omega)
  have z := clampE ((20 : Int32) + (5 : Int32) * x + k)
  have z1 := clampE x
  omega
theorem ixp {c k : Int32} (m : Nat) (hk : k.toInt = (m : Int)) (hm : m ≤ 11) (h0 : 0 ≤ c.toInt) (h1 : c.toInt ≤ 39) : ((740 : Int32) + (12 : Int32) * c + k).toNatClampNeg = 740 + 12 * c.toNatClampNeg + m := by
  have e := i_add (i_add (show (740 : Int32).toInt = 740 by decide) (i_mul (y := c) (show (12 : Int32).toInt = 12 by decide) rfl (by omega) (by omega)) (by omega) (by omega)) hk (by omega) (by omega)
  have z := clampE ((740 : Int32) + (12 : Int32) * c + k)
  have z1 := clampE c
  omega
theorem upd_s (f : Nat → Int32) (k : Nat) (v : Int32) : upd f k v k = v := if_pos rfl
theorem upd_n (f : Nat → Int32) {k j : Nat} (v : Int32) (h : j ≠ k) : upd f k v j = f j := if_neg h
theorem upd_upd (f : Nat → Int32) (k : Nat) (a b : Int32) : upd (upd f k a) k b = upd f k b := by
  funext j
  by_cases h : j = k
  · subst h; rw [upd_s, upd_s]
  · rw [upd_n _ _ h, upd_n _ _ h, upd_n _ _ h]
theorem up_id {α : Type} (r : Nat → α) (t : Nat) : va_up r t (r t) = r := by
  funext q
  by_cases h : q = t
  · subst h; exact va_up_self _ _ _
  · exact va_up_ne _ _ h
theorem up_up {α : Type} (r : Nat → α) (t : Nat) (a b : α) : va_up (va_up r t a) t b = va_up r t b := by
  funext q
  by_cases h : q = t
  · subst h; rw [va_up_self, va_up_self]
  · rw [va_up_ne _ _ h, va_up_ne _ _ h, va_up_ne _ _ h]
/-- the places from x to N of a row, each by itself -/
def mapR (t : Nat) (φ : Nat → Int32 → Int32) (x N : Nat) (r : Nat → Nat → Int32) : Nat → Nat → Int32 := va_up r t (fun j => if x ≤ j ∧ j < N then φ j (r t j) else r t j)
theorem mapR_0 {t : Nat} {φ : Nat → Int32 → Int32} {x N : Nat} {r : Nat → Nat → Int32} (h : N ≤ x) : mapR t φ x N r = r := by
  unfold mapR
  rw [show (fun j => if x ≤ j ∧ j < N then φ j (r t j) else r t j) = r t from funext fun j => if_neg (by omega)]
  exact up_id r t
theorem mapR_s {t : Nat} {φ : Nat → Int32 → Int32} {x N : Nat} {r : Nat → Nat → Int32} (h : x < N) : mapR t φ (x + 1) N (va_up r t (upd (r t) x (φ x (r t x)))) = mapR t φ x N r := by
  unfold mapR
  rw [up_up, va_up_self]
  congr 1
  funext j
  by_cases e : j = x
  · subst e
    rw [if_neg (by omega), if_pos (by omega), upd_s]
  · by_cases h1 : x + 1 ≤ j ∧ j < N
    · rw [if_pos h1, if_pos (by omega), upd_n _ _ e]
    · rw [if_neg h1, if_neg (by omega), upd_n _ _ e]
theorem mapR_t {t : Nat} {φ : Nat → Int32 → Int32} {x N : Nat} {r : Nat → Nat → Int32} : mapR t φ x N r t = fun j => if x ≤ j ∧ j < N then φ j (r t j) else r t j := va_up_self _ _ _
theorem mapR_o {t s : Nat} {φ : Nat → Int32 → Int32} {x N : Nat} {r : Nat → Nat → Int32} (h : s ≠ t) : mapR t φ x N r s = r s := va_up_ne _ _ h
variable {I : Nat → Int32} {J : Nat → Int64} {ri : Nat → Nat → Int32} {rj : Nat → Nat → Int64} {rq : Nat → Nat → Option Nat}
/-! REEF, of the class -/
def rfS (m x : Int32) : Int32 := if 0 < (if x + m < 400 then x + m else 400) then (if x + m < 400 then x + m else 400) else 0
theorem growReef_v {a0 : Int32} (h0 : 0 ≤ (I 65).toInt) (h40 : (I 65).toInt ≤ 40) : g_X2_growReef a0 I J ri rj rq = (I, J, mapR 74 (fun _ => rfS a0) 0 (I 65).toNatClampNeg ri, rj, rq) := by
  have go : ∀ (n : Nat) (x : Int32) (r : Nat → Nat → Int32), 0 ≤ x.toInt → x.toInt ≤ (I 65).toInt → (40 - x.toInt).toNat < n → g_X2_growReef_L2 a0 I J rj rq n x r = (I, J, mapR 74 (fun _ => rfS a0) x.toNatClampNeg (I 65).toNatClampNeg r, rj, rq) := by
    intro n
    induction n with
    | zero => intro x r _ _ h; exact absurd h (Nat.not_lt_zero _)
    | succ n ih =>
      intro x r h1 h2 h3
      have z1 := clampE x
      have z2 := clampE (I 65)
      rw [g_X2_growReef_L2_e]
      simp only [ap1]
      by_cases c : I 65 ≤ x
      · have c1 := Int32.le_iff_toInt_le.mp c
        rw [if_pos c, mapR_0 (by omega)]
      · have c1 := Int32.lt_iff_toInt_lt.mp (Int32.not_le.mp c)
        have e := t1_inc (x := x) (by omega) (by omega)
        have z3 := clampE (x + Int32.ofInt 1)
        rw [if_neg c, ih _ _ (by omega) (by omega) (by omega), show (x + Int32.ofInt 1).toNatClampNeg = x.toNatClampNeg + 1 from by omega]
        exact congrArg (fun q => (I, J, q, rj, rq)) (mapR_s (t := 74) (φ := fun _ => rfS a0) (r := r) (x := x.toNatClampNeg) (N := (I 65).toNatClampNeg) (by omega))
  rw [g_X2_growReef_e, go _ (0 : Int32) _ (by decide) h0 (Nat.lt_succ_self _)]
  rfl
/-! SAND, of the class -/
def lvS (d : Int32) (w s : Nat → Int32) (j : Nat) : Int32 := if w j = 0 then (if d < s j then d else s j) else 0
def wk1 (nx lv : Nat → Int32) (c : Nat) (s : Nat → Int32) : Nat → Int32 := if nx c = -1 then upd s c (s c - lv c) else upd (upd s c (s c - lv c)) (nx c).toNatClampNeg (upd s c (s c - lv c) (nx c).toNatClampNeg + lv c)
def wkS (nx lv : Nat → Int32) : Nat → Nat → (Nat → Int32) → Nat → Int32
  | 0, _, s => s
  | k + 1, c, s => wkS nx lv k (c + 1) (wk1 nx lv c s)
theorem walk_2 {J : Nat → Int64} {rj : Nat → Nat → Int64} {rq : Nat → Nat → Option Nat} {N : Int32} (h40 : N.toInt ≤ 40) : ∀ (n : Nat) (x : Int32) (I : Nat → Int32) (r : Nat → Nat → Int32), I 65 = N → 0 ≤ x.toInt → x.toInt ≤ N.toInt → (40 - x.toInt).toNat < n → ∃ I1 : Nat → Int32, (∀ f, f ≠ 66 → I1 f = I f) ∧ g_X2_walk_L47 J rj rq n x I r = (I1, J, va_up r 73 (wkS (r 79) (r 81) (N.toNatClampNeg - x.toNatClampNeg) x.toNatClampNeg (r 73)), rj, rq) := by
  intro n
  induction n with
  | zero => intro x I r _ _ _ h; exact absurd h (Nat.not_lt_zero _)
  | succ n ih =>
    intro x I r hI h1 h2 h3
    have z1 := clampE x
    have z2 := clampE N
    rw [g_X2_walk_L47_e]
    simp only [ap1, g_X2_walk_K118]
    by_cases c : I 65 ≤ x
    · have c1 := Int32.le_iff_toInt_le.mp c
      rw [hI] at c1
      rw [if_pos c, show N.toNatClampNeg - x.toNatClampNeg = 0 from by omega]
      exact ⟨I, fun _ _ => rfl, by rw [show wkS (r 79) (r 81) 0 x.toNatClampNeg (r 73) = r 73 from rfl, up_id]⟩
    · have c1 := Int32.lt_iff_toInt_lt.mp (Int32.not_le.mp c)
      rw [hI] at c1
      have e := t1_inc (x := x) (by omega) (by omega)
      have z3 := clampE (x + Int32.ofInt 1)
      rw [if_neg c, show N.toNatClampNeg - x.toNatClampNeg = (N.toNatClampNeg - (x + Int32.ofInt 1).toNatClampNeg) + 1 from by omega]
      have hx1 : (x + Int32.ofInt 1).toNatClampNeg = x.toNatClampNeg + 1 := by omega
      simp only [va_up_ne _ _ (show (79 : Nat) ≠ 73 by decide), va_up_ne _ _ (show (81 : Nat) ≠ 73 by decide), va_up_self]
      by_cases c2 : r 79 x.toNatClampNeg = -1
      · rw [if_pos c2]
        obtain ⟨I1, hI1, hv⟩ := ih (x + Int32.ofInt 1) (va_up I 66 (I 66 + r 81 x.toNatClampNeg)) (va_up r 73 (upd (r 73) x.toNatClampNeg (r 73 x.toNatClampNeg - r 81 x.toNatClampNeg))) ((va_up_ne _ _ (by decide)).trans hI) (by omega) (by omega) (by omega)
        refine ⟨I1, fun f hf => (hI1 f hf).trans (va_up_ne _ _ hf), ?_⟩
        rw [hv]
        simp only [va_up_ne _ _ (show (79 : Nat) ≠ 73 by decide), va_up_ne _ _ (show (81 : Nat) ≠ 73 by decide), va_up_self, up_up, hx1]
        show _ = (I1, J, va_up r 73 (wkS (r 79) (r 81) _ (x.toNatClampNeg + 1) (wk1 (r 79) (r 81) x.toNatClampNeg (r 73))), rj, rq)
        unfold wk1
        rw [if_pos c2]
      · rw [if_neg c2]
        obtain ⟨I1, hI1, hv⟩ := ih (x + Int32.ofInt 1) I (va_up (va_up r 73 (upd (r 73) x.toNatClampNeg (r 73 x.toNatClampNeg - r 81 x.toNatClampNeg))) 73 (upd (upd (r 73) x.toNatClampNeg (r 73 x.toNatClampNeg - r 81 x.toNatClampNeg)) (r 79 x.toNatClampNeg).toNatClampNeg (upd (r 73) x.toNatClampNeg (r 73 x.toNatClampNeg - r 81 x.toNatClampNeg) (r 79 x.toNatClampNeg).toNatClampNeg + r 81 x.toNatClampNeg))) hI (by omega) (by omega) (by omega)
        refine ⟨I1, hI1, ?_⟩
        rw [hv]
        simp only [va_up_ne _ _ (show (79 : Nat) ≠ 73 by decide), va_up_ne _ _ (show (81 : Nat) ≠ 73 by decide), va_up_self, up_up, hx1]
        show _ = (I1, J, va_up r 73 (wkS (r 79) (r 81) _ (x.toNatClampNeg + 1) (wk1 (r 79) (r 81) x.toNatClampNeg (r 73))), rj, rq)
        unfold wk1
        rw [if_neg c2]
theorem walk_1 {a0 : Int32} (h40 : (I 65).toInt ≤ 40) : ∀ (n : Nat) (x : Int32) (r : Nat → Nat → Int32), 0 ≤ x.toInt → x.toInt ≤ (I 65).toInt → (40 - x.toInt).toNat < n → g_X2_walk_L2 a0 I J rj rq n x r = g_X2_walk_L47 J rj rq ((40 - (0 : Int32).toInt).toNat + 1) 0 I (mapR 81 (fun j _ => lvS a0 (r 75) (r 73) j) x.toNatClampNeg (I 65).toNatClampNeg r) := by
  intro n
  induction n with
  | zero => intro x r _ _ h; exact absurd h (Nat.not_lt_zero _)
  | succ n ih =>
    intro x r h1 h2 h3
    have z1 := clampE x
    have z2 := clampE (I 65)
    rw [g_X2_walk_L2_e]
    simp only [ap1, g_X2_walk_K38]
    by_cases c : I 65 ≤ x
    · have c1 := Int32.le_iff_toInt_le.mp c
      rw [if_pos c, mapR_0 (by omega)]
    · have c1 := Int32.lt_iff_toInt_lt.mp (Int32.not_le.mp c)
      have e := t1_inc (x := x) (by omega) (by omega)
      have z3 := clampE (x + Int32.ofInt 1)
      have hx1 : (x + Int32.ofInt 1).toNatClampNeg = x.toNatClampNeg + 1 := by omega
      rw [if_neg c]
      have key : ∀ v : Int32, v = lvS a0 (r 75) (r 73) x.toNatClampNeg → g_X2_walk_L2 a0 I J rj rq n (x + Int32.ofInt 1) (va_up r 81 (upd (r 81) x.toNatClampNeg v)) = g_X2_walk_L47 J rj rq ((40 - (0 : Int32).toInt).toNat + 1) 0 I (mapR 81 (fun j _ => lvS a0 (r 75) (r 73) j) x.toNatClampNeg (I 65).toNatClampNeg r) := fun v hv => by
        rw [ih _ _ (by omega) (by omega) (by omega), hx1, va_up_ne _ _ (show (75 : Nat) ≠ 81 by decide), va_up_ne _ _ (show (73 : Nat) ≠ 81 by decide), hv]
        rw [mapR_s (t := 81) (φ := fun j _ => lvS a0 (r 75) (r 73) j) (r := r) (x := x.toNatClampNeg) (N := (I 65).toNatClampNeg) (by omega)]
      by_cases c2 : r 75 x.toNatClampNeg = 0
      · rw [if_pos c2]
        exact key _ (by unfold lvS; rw [if_pos c2])
      · rw [if_neg c2]
        exact key _ (by unfold lvS; rw [if_neg c2])
/-- what the SAND is when it has walked -/
def skS (d : Int32) (nx w s : Nat → Int32) (N : Nat) : Nat → Int32 := wkS nx (fun j => if j < N then lvS d w s j else 0) N 0 s
theorem wkS_cg {nx lv lv2 : Nat → Int32} : ∀ (k c : Nat) (s : Nat → Int32), (∀ j, c ≤ j → j < c + k → lv j = lv2 j) → wkS nx lv k c s = wkS nx lv2 k c s
  | 0, _, _, _ => rfl
  | k + 1, c, s, h => by
    show wkS nx lv k (c + 1) (wk1 nx lv c s) = wkS nx lv2 k (c + 1) (wk1 nx lv2 c s)
    rw [wkS_cg k (c + 1) _ (fun j h1 h2 => h j (by omega) (by omega))]
    unfold wk1
    rw [h c (Nat.le_refl _) (by omega)]
theorem walk_v {a0 : Int32} (h0 : 0 ≤ (I 65).toInt) (h40 : (I 65).toInt ≤ 40) : ∃ (I1 : Nat → Int32) (g : Nat → Int32), (∀ f, f ≠ 66 → I1 f = I f) ∧ g_X2_walk a0 I J ri rj rq = (I1, J, va_up (va_up ri 81 g) 73 (skS a0 (ri 79) (ri 75) (ri 73) (I 65).toNatClampNeg), rj, rq) := by
  rw [g_X2_walk_e, walk_1 h40 _ (0 : Int32) _ (by decide) h0 (Nat.lt_succ_self _)]
  obtain ⟨I1, hI1, hv⟩ := walk_2 (J := J) (rj := rj) (rq := rq) (N := I 65) h40 ((40 - (0 : Int32).toInt).toNat + 1) 0 I (mapR 81 (fun j _ => lvS a0 (ri 75) (ri 73) j) (0 : Int32).toNatClampNeg (I 65).toNatClampNeg ri) rfl (by decide) h0 (Nat.lt_succ_self _)
  refine ⟨I1, fun j => if (0 : Int32).toNatClampNeg ≤ j ∧ j < (I 65).toNatClampNeg then lvS a0 (ri 75) (ri 73) j else ri 81 j, hI1, ?_⟩
  rw [hv]
  have z : (0 : Int32).toNatClampNeg = 0 := by decide
  rw [mapR_o (show (79 : Nat) ≠ 81 by decide), mapR_o (show (73 : Nat) ≠ 81 by decide), mapR_t, z]
  unfold skS
  rw [Nat.sub_zero, wkS_cg (lv2 := fun j => if j < (I 65).toNatClampNeg then lvS a0 (ri 75) (ri 73) j else 0) _ _ _ (fun j _ h2 => by
    have h2 : j < (I 65).toNatClampNeg := by omega
    show (if 0 ≤ j ∧ j < (I 65).toNatClampNeg then _ else _) = _
    rw [if_pos ⟨Nat.zero_le _, h2⟩, if_pos h2])]
  rfl
end PU1
/-! ===== pure: REEF and SAND of the reference ===== -/
section PU2
variable {I : Nat → Int32} {J : Nat → Int64} {ri : Nat → Nat → Int32} {rj : Nat → Nat → Int64} {rq : Nat → Nat → Option Nat}
/-- a row of the reference's area: every S-th place from b on -/
def zo (k : Nat) (f g : Nat → Int32) : Prop := ∀ i, (∀ c, c < 40 → i ≠ 100 + 16 * c + k) → g i = f i
theorem zo_rf {k : Nat} {f : Nat → Int32} : zo k f f := fun _ _ => rfl
theorem zo_tr {k : Nat} {f g h : Nat → Int32} (a : zo k f g) (b : zo k g h) : zo k f h := fun i hi => (b i hi).trans (a i hi)
theorem zo_st {k c : Nat} {f : Nat → Int32} {v : Int32} (hc : c < 40) : zo k f (upd f (100 + 16 * c + k) v) := fun i hi => upd_n _ _ (hi c hc)
theorem rfS_m {m x : Int32} : (if x + m ≤ 400 then (if 0 ≤ x + m then x + m else 0) else 400) = rfS m x := by
  have h4 : (400 : Int32).toInt = 400 := by decide
  have h0 : (0 : Int32).toInt = 0 := by decide
  unfold rfS
  apply Int32.toInt_inj.mp
  by_cases a : x + m ≤ 400
  · rw [if_pos a]
    have a1 := Int32.le_iff_toInt_le.mp a
    by_cases b : x + m < 400
    · have b1 := Int32.lt_iff_toInt_lt.mp b
      rw [if_pos b]
      by_cases c : 0 ≤ x + m
      · have c1 := Int32.le_iff_toInt_le.mp c
        rw [if_pos c]
        by_cases d : 0 < x + m
        · rw [if_pos d]
        · have d1 := Int32.le_iff_toInt_le.mp (Int32.not_lt.mp d)
          rw [if_neg d]; omega
      · have c1 := Int32.lt_iff_toInt_lt.mp (Int32.not_le.mp c)
        rw [if_neg c, if_neg (fun d => by have d1 := Int32.lt_iff_toInt_lt.mp d; omega)]
    · have b1 := Int32.le_iff_toInt_le.mp (Int32.not_lt.mp b)
      rw [if_neg b, if_pos (show (0 : Int32) < 400 by decide), if_pos (Int32.le_iff_toInt_le.mpr (by omega))]
      omega
  · have a1 := Int32.lt_iff_toInt_lt.mp (Int32.not_le.mp a)
    rw [if_neg a, if_neg (show ¬ x + m < 400 from fun b => by have b1 := Int32.lt_iff_toInt_lt.mp b; omega), if_pos (show (0 : Int32) < 400 by decide)]
/-- what comes to a REEF in a month -/
def rfm (A : Nat → Int32) (t : Nat) : Int32 := if A 13 < A (20 + 5 * t + 2) then -(A 15) else A 14
def tmod (m : Int32) : Int32 := m - m / 12 * 12
theorem tmod_r {m : Int32} (h0 : 0 ≤ m.toInt) (h1 : m.toInt ≤ 2147483647) : 0 ≤ (tmod m).toInt ∧ (tmod m).toInt ≤ 11 := by
  have h := rg_rem (x := m) (k := 12) (a := 0) (b := 2147483647) (n := 12) (lo := 0) (hi := 11) ⟨h0, h1⟩ rfl (by decide)
  exact h
theorem bnI_at {α β : Type} {p : α × vM} {v : α} {I : Nat → Int32} {J : Nat → Int64} {ri : Nat → Nat → Int32} {rj : Nat → Nat → Int64} {rq : Nat → Nat → Option Nat} {k : α → (Nat → Int32) → (Nat → Int64) → (Nat → Nat → Int32) → (Nat → Nat → Int64) → (Nat → Nat → Option Nat) → β} (e : p = (v, I, J, ri, rj, rq)) : bnI p k = k v I J ri rj rq := by rw [e]; rfl
theorem tableAt_2 {m : Int32} : g_X12_tableAt_c2 m I J ri rj rq = (ri 384 ((20 : Int32) + (5 : Int32) * tmod m + 2).toNatClampNeg, I, J, ri, rj, rq) := by
  rw [g_X12_tableAt_c2_e]
  simp only [↓ap1_n, tmod]
set_option maxRecDepth 100000 in
theorem reefGoes_v {m : Int32} (hm0 : 0 ≤ m.toInt) (hm1 : m.toInt ≤ 600) (h0 : 0 ≤ (ri 384 2).toInt) (h40 : (ri 384 2).toInt ≤ 40) : ∃ A : Nat → Int32, g_X12_reefGoes m I J ri rj rq = (I, J, va_up ri 384 A, rj, rq) ∧ zo 5 (ri 384) A ∧ ∀ c, c < 40 → A (100 + 16 * c + 5) = if c < (ri 384 2).toNatClampNeg then rfS (rfm (ri 384) (tmod m).toNatClampNeg) (ri 384 (100 + 16 * c + 5)) else ri 384 (100 + 16 * c + 5) := by
  have go : ∀ (n : Nat) (x : Int32) (A : Nat → Int32), 0 ≤ x.toInt → x.toInt ≤ (ri 384 2).toInt → (40 - x.toInt).toNat < n → zo 5 (ri 384) A → ∃ B : Nat → Int32, g_X12_reefGoes_L2 m I J ri rj rq n x (va_up ri 384 A) = (I, J, va_up ri 384 B, rj, rq) ∧ zo 5 A B ∧ ∀ c, c < 40 → B (100 + 16 * c + 5) = if x.toNatClampNeg ≤ c ∧ c < (ri 384 2).toNatClampNeg then rfS (rfm (ri 384) (tmod m).toNatClampNeg) (A (100 + 16 * c + 5)) else A (100 + 16 * c + 5) := by
    intro n
    induction n with
    | zero => intro x A _ _ h; exact absurd h (Nat.not_lt_zero _)
    | succ n ih =>
      intro x A h1 h2 h3 hA
      have z1 := clampE x
      have z2 := clampE (ri 384 2)
      rw [g_X12_reefGoes_L2_e]
      simp only [↓ap1_n]
      rw [bnI_at tableAt_2]
      simp only [va_up_self]
      by_cases c : ri 384 2 ≤ x
      · have c1 := Int32.le_iff_toInt_le.mp c
        rw [if_pos c]
        exact ⟨A, rfl, zo_rf, fun c _ => (if_neg (by omega)).symm⟩
      · have c1 := Int32.lt_iff_toInt_lt.mp (Int32.not_le.mp c)
        have e := t1_inc (x := x) (by omega) (by omega)
        have z3 := clampE (x + Int32.ofInt 1)
        have hx1 : (x + Int32.ofInt 1).toNatClampNeg = x.toNatClampNeg + 1 := by omega
        have i5 := ixk (c := x) (k := 5) 5 (by decide) (by decide) h1 (by omega)
        have tm := tmod_r hm0 (by omega)
        have i2 := ixt (x := tmod m) (k := 2) 2 (by decide) (by decide) tm.1 tm.2
        have ztq := clampE (tmod m)
        rw [if_neg c, i2, i5]
        have f13 : A (13 : Int32).toNatClampNeg = ri 384 13 := by rw [show (13 : Int32).toNatClampNeg = 13 from by decide]; exact hA 13 (fun c _ => by omega)
        have f14 : A (14 : Int32).toNatClampNeg = ri 384 14 := by rw [show (14 : Int32).toNatClampNeg = 14 from by decide]; exact hA 14 (fun c _ => by omega)
        have f15 : A (15 : Int32).toNatClampNeg = ri 384 15 := by rw [show (15 : Int32).toNatClampNeg = 15 from by decide]; exact hA 15 (fun c _ => by omega)
        have f2 : A (20 + 5 * (tmod m).toNatClampNeg + 2) = ri 384 (20 + 5 * (tmod m).toNatClampNeg + 2) := hA _ (fun c _ => by omega)
        rw [f13, f14, f15, f2]
        -- one step
        have key : ∀ v : Int32, v = rfm (ri 384) (tmod m).toNatClampNeg → ∃ B : Nat → Int32, g_X12_reefGoes_K63 x (va_up ri 384 A) (g_X12_reefGoes_L2 m I J ri rj rq n) ((100 : Int32) + (16 : Int32) * x + 5) (A (100 + 16 * x.toNatClampNeg + 5)) v = (I, J, va_up ri 384 B, rj, rq) ∧ zo 5 A B ∧ ∀ c, c < 40 → B (100 + 16 * c + 5) = if x.toNatClampNeg ≤ c ∧ c < (ri 384 2).toNatClampNeg then rfS (rfm (ri 384) (tmod m).toNatClampNeg) (A (100 + 16 * c + 5)) else A (100 + 16 * c + 5) := by
          intro v hv
          have leaf : ∀ w : Int32, w = rfS v (A (100 + 16 * x.toNatClampNeg + 5)) → ∃ B : Nat → Int32, g_X12_reefGoes_L2 m I J ri rj rq n (x + Int32.ofInt 1) (va_up ri 384 (upd A (100 + 16 * x.toNatClampNeg + 5) w)) = (I, J, va_up ri 384 B, rj, rq) ∧ zo 5 A B ∧ ∀ c, c < 40 → B (100 + 16 * c + 5) = if x.toNatClampNeg ≤ c ∧ c < (ri 384 2).toNatClampNeg then rfS (rfm (ri 384) (tmod m).toNatClampNeg) (A (100 + 16 * c + 5)) else A (100 + 16 * c + 5) := by
            intro w hw
            have hz : zo 5 A (upd A (100 + 16 * x.toNatClampNeg + 5) w) := zo_st (by omega)
            obtain ⟨B, b1, b2, b3⟩ := ih (x + Int32.ofInt 1) (upd A (100 + 16 * x.toNatClampNeg + 5) w) (by omega) (by omega) (by omega) (zo_tr hA hz)
            refine ⟨B, b1, zo_tr hz b2, fun c hc => ?_⟩
            rw [b3 c hc, hx1]
            by_cases q : c = x.toNatClampNeg
            · subst q
              rw [if_neg (by omega), if_pos (by omega), upd_s, hw, hv]
            · rw [upd_n _ _ (by omega)]
              by_cases q2 : x.toNatClampNeg + 1 ≤ c ∧ c < (ri 384 2).toNatClampNeg
              · rw [if_pos q2, if_pos (by omega)]
              · rw [if_neg q2, if_neg (by omega)]
          have hm := rfS_m (m := v) (x := A (100 + 16 * x.toNatClampNeg + 5))
          simp only [g_X12_reefGoes_K63, g_X12_reefGoes_K86, g_X12_reefGoes_K102, ↓ap1_n, i5, va_up_self, up_up, upd_s, upd_upd]
          by_cases d : A (100 + 16 * x.toNatClampNeg + 5) + v ≤ 400
          · rw [if_pos d] at hm
            rw [if_pos d]
            by_cases d2 : 0 ≤ A (100 + 16 * x.toNatClampNeg + 5) + v
            · rw [if_pos d2] at hm
              rw [if_pos d2]
              exact leaf _ hm
            · rw [if_neg d2] at hm
              rw [if_neg d2]
              exact leaf _ hm
          · rw [if_neg d] at hm
            rw [if_neg d, if_pos (show (0 : Int32) ≤ 400 by decide)]
            exact leaf _ hm
        by_cases d : ri 384 13 < ri 384 (20 + 5 * (tmod m).toNatClampNeg + 2)
        · rw [if_pos d]
          exact key _ (by unfold rfm; rw [if_pos d])
        · rw [if_neg d]
          exact key _ (by unfold rfm; rw [if_neg d])
  rw [g_X12_reefGoes_e]
  have h := go ((40 - (0 : Int32).toInt).toNat + 1) 0 (ri 384) (by decide) h0 (Nat.lt_succ_self _) zo_rf
  rw [up_id] at h
  obtain ⟨B, b1, b2, b3⟩ := h
  exact ⟨B, b1, b2, fun c hc => by rw [b3 c hc]; have z : (0 : Int32).toNatClampNeg = 0 := by decide
                                   rw [z]; by_cases q : c < (ri 384 2).toNatClampNeg
                                   · rw [if_pos ⟨Nat.zero_le _, q⟩, if_pos q]
                                   · rw [if_neg (fun y => q y.2), if_neg q]⟩
end PU2
/-! ===== pure: SAND of the reference ===== -/
section PU3
variable {I : Nat → Int32} {J : Nat → Int64} {ri : Nat → Nat → Int32} {rj : Nat → Nat → Int64} {rq : Nat → Nat → Option Nat}
/-- the next CELL of a CELL's RING, as the class keeps it -/
def NXT (nx rg : Nat → Int32) (N : Nat) : Prop := ∀ c, c < N → (nx c = -1 ∧ ∀ k, c < k → k < N → rg k ≠ rg c) ∨ ∃ k, c < k ∧ k < N ∧ rg k = rg c ∧ (∀ i, c < i → i < k → rg i ≠ rg c) ∧ (nx c).toInt = (k : Int)
theorem cellAt_v0 {x : Int32} : g_X12_cellAt_c0 x I J ri rj rq = (ri 384 ((100 : Int32) + (16 : Int32) * x + 0).toNatClampNeg, I, J, ri, rj, rq) := rfl
theorem cellAt_v4 {x : Int32} : g_X12_cellAt_c4 x I J ri rj rq = (ri 384 ((100 : Int32) + (16 : Int32) * x + 4).toNatClampNeg, I, J, ri, rj, rq) := rfl
theorem cellAt_v6 {x : Int32} : g_X12_cellAt_c6 x I J ri rj rq = (ri 384 ((100 : Int32) + (16 : Int32) * x + 6).toNatClampNeg, I, J, ri, rj, rq) := rfl
theorem tableAt_3 {m : Int32} : g_X12_tableAt_c3 m I J ri rj rq = (ri 384 ((20 : Int32) + (5 : Int32) * tmod m + 3).toNatClampNeg, I, J, ri, rj, rq) := rfl
/-- all but the SAND and THE DEEP -/
def zs (f g : Nat → Int32) : Prop := ∀ i, i ≠ 9 → (∀ c, c < 40 → i ≠ 100 + 16 * c + 4) → g i = f i
theorem zs_rf {f : Nat → Int32} : zs f f := fun _ _ _ => rfl
theorem zs_tr {f g h : Nat → Int32} (a : zs f g) (b : zs g h) : zs f h := fun i h1 h2 => (b i h1 h2).trans (a i h1 h2)
theorem zs_st {c : Nat} {f : Nat → Int32} {v : Int32} (hc : c < 40) : zs f (upd f (100 + 16 * c + 4) v) := fun i _ hi => upd_n _ _ (hi c hc)
theorem zs_9 {f : Nat → Int32} {v : Int32} : zs f (upd f 9 v) := fun i hi _ => upd_n _ _ hi
theorem sand_to {N c : Int32} {k : Int32 → (Nat → Nat → Int32) → vM} {r : Nat → Nat → Int32} (hN : N.toInt ≤ 40) (hc0 : 0 ≤ c.toInt) (hc1 : c.toInt < N.toInt) : ∀ (n : Nat) (x : Int32), c.toInt < x.toInt → x.toInt ≤ N.toInt → (40 - x.toInt).toNat < n → (∀ i : Nat, c.toNatClampNeg < i → i < x.toNatClampNeg → r 384 (100 + 16 * i) ≠ r 384 (100 + 16 * c.toNatClampNeg)) → ∃ y : Int32, g_X12_sandGoes_L104 I J rj rq N c k r n x = g_X12_sandGoes_K135 y N c k r ∧ c.toInt < y.toInt ∧ y.toInt ≤ N.toInt ∧ (∀ i : Nat, c.toNatClampNeg < i → i < y.toNatClampNeg → r 384 (100 + 16 * i) ≠ r 384 (100 + 16 * c.toNatClampNeg)) ∧ (y.toInt < N.toInt → r 384 (100 + 16 * y.toNatClampNeg) = r 384 (100 + 16 * c.toNatClampNeg)) := by
  intro n
  induction n with
  | zero => intro x _ _ h; exact absurd h (Nat.not_lt_zero _)
  | succ n ih =>
    intro x h1 h2 h3 h4
    have zx := clampE x
    have zc := clampE c
    rw [g_X12_sandGoes_L104_e]
    simp only [bnI_u, cellAt_v0, ↓ap1_n]
    by_cases d : N ≤ x
    · have d1 := Int32.le_iff_toInt_le.mp d
      rw [if_pos d]
      exact ⟨x, rfl, h1, h2, h4, fun q => by omega⟩
    · have d1 := Int32.lt_iff_toInt_lt.mp (Int32.not_le.mp d)
      have e := t1_inc (x := x) (by omega) (by omega)
      have z3 := clampE (x + Int32.ofInt 1)
      have ix := ixk (c := x) (k := 0) 0 (by decide) (by decide) (by omega) (by omega)
      have ic := ixk (c := c) (k := 0) 0 (by decide) (by decide) (by omega) (by omega)
      rw [if_neg d, ix, ic, Nat.add_zero, Nat.add_zero]
      by_cases q : r 384 (100 + 16 * x.toNatClampNeg) = r 384 (100 + 16 * c.toNatClampNeg)
      · rw [if_pos q]
        exact ⟨x, rfl, h1, h2, h4, fun _ => q⟩
      · rw [if_neg q]
        exact ih _ (by omega) (by omega) (by omega) (fun i i1 i2 => by
          by_cases w : i = x.toNatClampNeg
          · rw [w]; exact q
          · exact h4 i i1 (by omega))
theorem sand_2 {N : Int32} {nx lv rg : Nat → Int32} (hN : N.toInt ≤ 40) (hx : NXT nx rg N.toNatClampNeg) : ∀ (n : Nat) (x : Int32) (r : Nat → Nat → Int32) (s : Nat → Int32), 0 ≤ x.toInt → x.toInt ≤ N.toInt → (40 - x.toInt).toNat < n → (∀ c, c < 40 → r 384 (100 + 16 * c) = rg c) → (∀ c, c < 40 → r 384 (100 + 16 * c + 4) = s c) → (∀ c, c < N.toNatClampNeg → r 409 c = lv c) → ∃ B : Nat → Int32, g_X12_sandGoes_L67 I J rj rq N n x r = (I, J, va_up r 384 B, rj, rq) ∧ zs (r 384) B ∧ ∀ c, c < 40 → B (100 + 16 * c + 4) = wkS nx lv (N.toNatClampNeg - x.toNatClampNeg) x.toNatClampNeg s c := by
  intro n
  induction n with
  | zero => intro x r s _ _ h; exact absurd h (Nat.not_lt_zero _)
  | succ n ih =>
    intro x r s h1 h2 h3 hr hs hl
    have zx := clampE x
    have zN := clampE N
    rw [g_X12_sandGoes_L67_e]
    simp only [↓ap1_n]
    by_cases d : N ≤ x
    · have d1 := Int32.le_iff_toInt_le.mp d
      rw [if_pos d, show N.toNatClampNeg - x.toNatClampNeg = 0 from by omega]
      exact ⟨r 384, by rw [up_id], zs_rf, hs⟩
    · have d1 := Int32.lt_iff_toInt_lt.mp (Int32.not_le.mp d)
      have e := t1_inc (x := x) (by omega) (by omega)
      have e1 := t1_one (x := x) (by omega) (by omega)
      have z3 := clampE (x + Int32.ofInt 1)
      have ix := ixk (c := x) (k := 4) 4 (by decide) (by decide) (by omega) (by omega)
      have hx1 : (x + Int32.ofInt 1).toNatClampNeg = x.toNatClampNeg + 1 := by omega
      have hc40 : x.toNatClampNeg < 40 := by omega
      rw [if_neg d, ix, hs _ hc40, hl _ (by omega)]
      generalize hA : upd (r 384) (100 + 16 * x.toNatClampNeg + 4) (s x.toNatClampNeg - lv x.toNatClampNeg) = A
      have hr1 : ∀ c, c < 40 → va_up r 384 A 384 (100 + 16 * c) = rg c := fun c hc => by rw [va_up_self, ← hA, upd_n _ _ (by omega)]; exact hr c hc
      obtain ⟨y, ey, y1, y2, y3, y4⟩ := sand_to (I := I) (J := J) (rj := rj) (rq := rq) (N := N) (c := x) (k := g_X12_sandGoes_L67 I J rj rq N n) (r := va_up r 384 A) hN h1 d1 ((40 - (x + 1).toInt).toNat + 1) (x + 1) (by omega) (by omega) (Nat.lt_succ_self _) (fun i i1 i2 => by have z4 := clampE (x + 1); omega)
      rw [ey]
      have zy := clampE y
      have r9 : va_up r 384 A 409 x.toNatClampNeg = lv x.toNatClampNeg := by rw [va_up_ne _ _ (show (409 : Nat) ≠ 384 by decide)]; exact hl _ (by omega)
      simp only [g_X12_sandGoes_K135, g_X12_sandGoes_K187, ↓ap1_n, r9, va_up_self, up_up]
      -- the SAND when this CELL's has gone
      have s1 : ∀ c, c < 40 → A (100 + 16 * c + 4) = upd s x.toNatClampNeg (s x.toNatClampNeg - lv x.toNatClampNeg) c := fun c hc => by
        rw [← hA]
        by_cases q : c = x.toNatClampNeg
        · subst q; rw [upd_s, upd_s]
        · rw [upd_n _ _ (by omega), upd_n _ _ q]; exact hs c hc
      have zA : zs (r 384) A := by rw [← hA]; exact zs_st hc40
      have fin : ∀ A2 : Nat → Int32, zs (r 384) A2 → (∀ c, c < 40 → A2 (100 + 16 * c + 4) = wk1 nx lv x.toNatClampNeg s c) → ∃ B : Nat → Int32, g_X12_sandGoes_L67 I J rj rq N n (x + Int32.ofInt 1) (va_up r 384 A2) = (I, J, va_up r 384 B, rj, rq) ∧ zs (r 384) B ∧ ∀ c, c < 40 → B (100 + 16 * c + 4) = wkS nx lv (N.toNatClampNeg - x.toNatClampNeg) x.toNatClampNeg s c := fun A2 w1 w2 => by
        obtain ⟨B, b1, b2, b3⟩ := ih (x + Int32.ofInt 1) (va_up r 384 A2) (wk1 nx lv x.toNatClampNeg s) (by omega) (by omega) (by omega) (fun c hc => by rw [va_up_self, w1 _ (by omega) (fun c2 _ => by omega)]; exact hr c hc) (fun c hc => by rw [va_up_self]; exact w2 c hc) (fun c hc => by rw [va_up_ne _ _ (show (409 : Nat) ≠ 384 by decide)]; exact hl c hc)
        rw [up_up] at b1
        rw [va_up_self] at b2
        refine ⟨B, b1, zs_tr w1 b2, fun c hc => ?_⟩
        rw [b3 c hc, hx1, show N.toNatClampNeg - x.toNatClampNeg = (N.toNatClampNeg - (x.toNatClampNeg + 1)) + 1 from by omega]
        rfl
      have rgx : va_up r 384 A 384 (100 + 16 * x.toNatClampNeg) = rg x.toNatClampNeg := hr1 _ hc40
      by_cases dy : N ≤ y
      · have dy1 := Int32.le_iff_toInt_le.mp dy
        rw [if_pos dy]
        have hn : nx x.toNatClampNeg = -1 := by
          rcases hx x.toNatClampNeg (by omega) with ⟨a, _⟩ | ⟨k, k1, k2, k3, _, _⟩
          · exact a
          · exact absurd ((hr1 k (by omega)).trans (k3.trans rgx.symm)) (y3 k k1 (by omega))
        rw [show (9 : Int32).toNatClampNeg = 9 from by decide]
        refine fin _ (zs_tr zA zs_9) (fun c hc => ?_)
        rw [upd_n _ _ (by omega), s1 c hc]
        unfold wk1
        rw [if_pos hn]
      · have dy1 := Int32.lt_iff_toInt_lt.mp (Int32.not_le.mp dy)
        have iy := ixk (c := y) (k := 4) 4 (by decide) (by decide) (by omega) (by omega)
        rw [if_neg dy, iy, s1 _ (by omega)]
        have hn : nx x.toNatClampNeg ≠ -1 ∧ (nx x.toNatClampNeg).toNatClampNeg = y.toNatClampNeg := by
          rcases hx x.toNatClampNeg (by omega) with ⟨_, b⟩ | ⟨k, k1, k2, k3, k4, k5⟩
          · exact absurd ((hr1 _ (by omega)).symm.trans ((y4 dy1).trans rgx)) (b y.toNatClampNeg (by omega) (by omega))
          · have zk := clampE (nx x.toNatClampNeg)
            refine ⟨fun q => by rw [q] at k5; have : (-1 : Int32).toInt = -1 := by decide
                                omega, ?_⟩
            by_cases w : k < y.toNatClampNeg
            · exact absurd ((hr1 k (by omega)).trans (k3.trans rgx.symm)) (y3 k k1 w)
            · by_cases w2 : y.toNatClampNeg < k
              · exact absurd ((hr1 _ (by omega)).symm.trans ((y4 dy1).trans rgx)) (k4 y.toNatClampNeg (by omega) w2)
              · omega
        refine fin _ (zs_tr zA (zs_st (by omega))) (fun c hc => ?_)
        unfold wk1
        rw [if_neg hn.1, hn.2]
        by_cases q : c = y.toNatClampNeg
        · subst q; rw [upd_s, upd_s]
        · rw [upd_n _ _ (by omega), upd_n _ _ q]; exact s1 c hc
theorem minS {d x : Int32} : (if d ≤ x then d else x) = if d < x then d else x := by
  by_cases a : d < x
  · rw [if_pos a, if_pos (Int32.le_of_lt a)]
  · rw [if_neg a]
    by_cases b : d ≤ x
    · rw [if_pos b]
      exact Int32.toInt_inj.mp (by have b1 := Int32.le_iff_toInt_le.mp b; have a1 := Int32.le_iff_toInt_le.mp (Int32.not_lt.mp a); omega)
    · rw [if_neg b]
theorem sandGoes_v {m : Int32} {nx s w rg : Nat → Int32} (hm0 : 0 ≤ m.toInt) (hm1 : m.toInt ≤ 600) (h0 : 0 ≤ (ri 384 2).toInt) (h40 : (ri 384 2).toInt ≤ 40) (hx : NXT nx rg (ri 384 2).toNatClampNeg) (hr : ∀ c, c < 40 → ri 384 (100 + 16 * c) = rg c) (hs : ∀ c, c < 40 → ri 384 (100 + 16 * c + 4) = s c) (hw : ∀ c, c < 40 → ri 384 (100 + 16 * c + 6) = w c ∧ 0 ≤ (w c).toInt) : ∃ (g B : Nat → Int32), g_X12_sandGoes m I J ri rj rq = (I, J, va_up (va_up ri 409 g) 384 B, rj, rq) ∧ zs (ri 384) B ∧ ∀ c, c < 40 → B (100 + 16 * c + 4) = skS (ri 384 (20 + 5 * (tmod m).toNatClampNeg + 3)) nx w s (ri 384 2).toNatClampNeg c := by
  have tm := tmod_r hm0 (by omega)
  have zN := clampE (ri 384 2)
  have go : ∀ (n : Nat) (x : Int32) (g : Nat → Int32), 0 ≤ x.toInt → x.toInt ≤ (ri 384 2).toInt → (40 - x.toInt).toNat < n → (∀ c, c < x.toNatClampNeg → g c = lvS (ri 384 (20 + 5 * (tmod m).toNatClampNeg + 3)) w s c) → ∃ g2 : Nat → Int32, g_X12_sandGoes_L2 m I J ri rj rq n x (va_up ri 409 g) = g_X12_sandGoes_L67 I J rj rq (ri 384 2) ((40 - (0 : Int32).toInt).toNat + 1) 0 (va_up ri 409 g2) ∧ ∀ c, c < (ri 384 2).toNatClampNeg → g2 c = lvS (ri 384 (20 + 5 * (tmod m).toNatClampNeg + 3)) w s c := by
    intro n
    induction n with
    | zero => intro x g _ _ h; exact absurd h (Nat.not_lt_zero _)
    | succ n ih =>
      intro x g h1 h2 h3 hg
      have zx := clampE x
      rw [g_X12_sandGoes_L2_e]
      simp only [↓ap1_n, bnI_u, tableAt_3, cellAt_v6, cellAt_v4, va_up_ne _ _ (show (384 : Nat) ≠ 409 by decide)]
      by_cases d : ri 384 2 ≤ x
      · have d1 := Int32.le_iff_toInt_le.mp d
        rw [if_pos d]
        exact ⟨g, rfl, fun c hc => hg c (by omega)⟩
      · have d1 := Int32.lt_iff_toInt_lt.mp (Int32.not_le.mp d)
        have e := t1_inc (x := x) (by omega) (by omega)
        have z3 := clampE (x + Int32.ofInt 1)
        have i4 := ixk (c := x) (k := 4) 4 (by decide) (by decide) (by omega) (by omega)
        have i6 := ixk (c := x) (k := 6) 6 (by decide) (by decide) (by omega) (by omega)
        have i3 := ixt (x := tmod m) (k := 3) 3 (by decide) (by decide) tm.1 tm.2
        rw [if_neg d, i6, i4, i3, hs _ (by omega), (hw _ (by omega)).1]
        have key : ∀ v : Int32, v = lvS (ri 384 (20 + 5 * (tmod m).toNatClampNeg + 3)) w s x.toNatClampNeg → ∃ g2 : Nat → Int32, g_X12_sandGoes_K58 x (va_up ri 409 g) (g_X12_sandGoes_L2 m I J ri rj rq n) v = g_X12_sandGoes_L67 I J rj rq (ri 384 2) ((40 - (0 : Int32).toInt).toNat + 1) 0 (va_up ri 409 g2) ∧ ∀ c, c < (ri 384 2).toNatClampNeg → g2 c = lvS (ri 384 (20 + 5 * (tmod m).toNatClampNeg + 3)) w s c := fun v hv => by
          simp only [g_X12_sandGoes_K58, ↓ap1_n, va_up_self, up_up]
          refine ih _ _ (by omega) (by omega) (by omega) (fun c hc => ?_)
          by_cases q : c = x.toNatClampNeg
          · subst q; rw [upd_s]; exact hv
          · rw [upd_n _ _ q]; exact hg c (by omega)
        have hw0 := (hw x.toNatClampNeg (by omega)).2
        by_cases d2 : w x.toNatClampNeg ≤ 0
        · have d3 := Int32.le_iff_toInt_le.mp d2
          have k0 : (0 : Int32).toInt = 0 := by decide
          have w0 : w x.toNatClampNeg = 0 := Int32.toInt_inj.mp (by omega)
          rw [if_pos d2]
          have hm := minS (d := ri 384 (20 + 5 * (tmod m).toNatClampNeg + 3)) (x := s x.toNatClampNeg)
          by_cases d4 : ri 384 (20 + 5 * (tmod m).toNatClampNeg + 3) ≤ s x.toNatClampNeg
          · rw [if_pos d4] at hm
            rw [if_pos d4]
            exact key _ (by unfold lvS; rw [if_pos w0]; exact hm)
          · rw [if_neg d4] at hm
            rw [if_neg d4]
            exact key _ (by unfold lvS; rw [if_pos w0]; exact hm)
        · rw [if_neg d2]
          exact key _ (by unfold lvS; rw [if_neg (fun q => d2 (by rw [q]; exact Int32.le_refl _))])
  rw [g_X12_sandGoes_e]
  obtain ⟨g, e1, e2⟩ := go ((40 - (0 : Int32).toInt).toNat + 1) 0 (ri 409) (by decide) h0 (Nat.lt_succ_self _) (fun c hc => absurd hc (by rw [show (0 : Int32).toNatClampNeg = 0 from by decide]; exact Nat.not_lt_zero _))
  rw [up_id] at e1
  rw [e1]
  obtain ⟨B, b1, b2, b3⟩ := sand_2 (I := I) (J := J) (rj := rj) (rq := rq) (N := ri 384 2) (nx := nx) (rg := rg) (lv := fun j => if j < (ri 384 2).toNatClampNeg then lvS (ri 384 (20 + 5 * (tmod m).toNatClampNeg + 3)) w s j else 0) h40 hx ((40 - (0 : Int32).toInt).toNat + 1) 0 (va_up ri 409 g) s (by decide) h0 (Nat.lt_succ_self _) (fun c hc => by rw [va_up_ne _ _ (show (384 : Nat) ≠ 409 by decide)]; exact hr c hc) (fun c hc => by rw [va_up_ne _ _ (show (384 : Nat) ≠ 409 by decide)]; exact hs c hc) (fun c hc => by rw [va_up_self, if_pos hc]; exact e2 c hc)
  rw [va_up_ne _ _ (show (384 : Nat) ≠ 409 by decide)] at b2
  refine ⟨g, B, b1, b2, fun c hc => ?_⟩
  rw [b3 c hc, show (0 : Int32).toNatClampNeg = 0 from by decide]
  rfl
end PU3
/-! ===== pure: bits; the tides ===== -/
section PU4
variable {I : Nat → Int32} {J : Nat → Int64} {ri : Nat → Nat → Int32} {rj : Nat → Nat → Int64} {rq : Nat → Nat → Option Nat}
def hb (x : Int64) (c : Nat) : Bool := x.toBitVec.getLsbD c
theorem toN {x : Int32} (h0 : 0 ≤ x.toInt) : x = nI x.toNatClampNeg := Int32.toInt_inj.mp (by
  have z := clampE x
  have l := x.toInt_lt
  rw [nI_toInt (n := x.toNatClampNeg) (by omega)]
  omega)
theorem cmp0 (x : Int64) : lg_cmp x 0 = 0 ↔ x = 0 := by
  unfold lg_cmp
  by_cases a : x > 0
  · rw [if_pos a]
    exact ⟨fun h => absurd h (by decide), fun h => by rw [h] at a; exact absurd a (by decide)⟩
  · by_cases b : x = 0
    · rw [if_neg a, if_pos b]; exact ⟨fun _ => b, fun _ => rfl⟩
    · rw [if_neg a, if_neg b]; exact ⟨fun h => absurd h (by decide), fun h => absurd h b⟩
theorem hasBit_v {s : Int64} {c : Int32} (h0 : 0 ≤ c.toInt) (h1 : c.toInt ≤ 63) : g_X11_hasBit s c = if hb s c.toNatClampNeg = true then 1 else 0 := by
  have z := clampE c
  have hk : c.toNatClampNeg < 64 := by omega
  have hs : (c.toInt64.toUInt64 &&& Int64.toUInt64 63).toNat = c.toNatClampNeg := by
    have e := wb_cu c.toNatClampNeg hk
    rw [← toN h0] at e
    rw [e]
    exact u_tn (by omega)
  have t := ts_bit (w := s) hk hs
  rw [g_X11_hasBit_e]
  simp only [↓ap1_n]
  by_cases b : s.toBitVec.getLsbD c.toNatClampNeg = true
  · rw [if_neg (fun q => by rw [t.mp ((cmp0 _).mp q)] at b; exact absurd b (by decide)), if_pos (show hb s c.toNatClampNeg = true from b)]
  · have b2 : s.toBitVec.getLsbD c.toNatClampNeg = false := by simpa using b
    rw [if_pos ((cmp0 _).mpr (t.mpr b2)), if_neg (show ¬ hb s c.toNatClampNeg = true from b)]
theorem hb_one {c : Int32} (h0 : 0 ≤ c.toInt) (h1 : c.toInt ≤ 63) (j : Nat) (hj : j < 64) : hb ((1 : Int64) <<< (c.toInt64 &&& 63)) j = decide (c.toNatClampNeg = j) := by
  have z := clampE c
  have hk : c.toNatClampNeg < 64 := by omega
  have e := wb_shl 1 hk
  rw [← toN h0] at e
  have e1 : (1 : Int64) = lN 1 := fa_litL 1
  rw [e1, e, Nat.one_mul]
  show (BitVec.ofNat 64 (2 ^ c.toNatClampNeg)).getLsbD j = _
  rw [BitVec.getLsbD_ofNat, Nat.testBit_two_pow, decide_eq_true hj, Bool.true_and]
theorem hb_or {s : Int64} {c : Int32} (h0 : 0 ≤ c.toInt) (h1 : c.toInt ≤ 63) (j : Nat) (hj : j < 64) : hb (s ||| ((1 : Int64) <<< (c.toInt64 &&& 63))) j = (hb s j || decide (c.toNatClampNeg = j)) := by
  rw [← hb_one h0 h1 j hj]
  unfold hb
  rw [Int64.toBitVec_or, BitVec.getLsbD_or]
theorem hb_0 (j : Nat) : hb 0 j = false := by
  unfold hb
  show (0#64).getLsbD j = false
  exact BitVec.getLsbD_zero
def topS (h s r w : Nat → Int32) (c : Nat) : Int32 := h c + s c + r c / 4 + w c
theorem topOf_v {x : Int32} : g_X2_topOf x I J ri rj rq = (topS (ri 70) (ri 73) (ri 74) (ri 75) x.toNatClampNeg, I, J, ri, rj, rq) := rfl
theorem isDry_v {x : Int32} : g_X2_isDry x I J ri rj rq = (g_X11_hasBit (J 67) x, I, J, ri, rj, rq) := rfl
/-- the tides of the class: who is DRY, UNDER, the ROCKS of the month -/
theorem tide_v {m hi lo : Int32} (h0 : 0 ≤ (I 65).toInt) (h40 : (I 65).toInt ≤ 40) (hm0 : 0 ≤ m.toInt) (hm1 : m.toInt < 600) : ∃ (d k : Int64) (u : Nat → Int32), g_X2_tide m hi lo I J ri rj rq = (I, va_up J 67 d, va_up ri 77 u, va_up rj 68 (vp_updL (rj 68) m.toNatClampNeg k), rq) ∧ (∀ j, j < 64 → hb d j = decide (j < (I 65).toNatClampNeg ∧ ¬ topS (ri 70) (ri 73) (ri 74) (ri 75) j ≤ hi)) ∧ (∀ j, j < 64 → hb k j = decide (j < (I 65).toNatClampNeg ∧ ¬ topS (ri 70) (ri 73) (ri 74) (ri 75) j ≤ lo)) ∧ ∀ j, u j = if j < (I 65).toNatClampNeg then (if topS (ri 70) (ri 73) (ri 74) (ri 75) j ≤ hi then ri 77 j + 1 else 0) else ri 77 j := by
  have zN := clampE (I 65)
  have go : ∀ (n : Nat) (k : Int64) (x : Int32) (d : Int64) (u : Nat → Int32), 0 ≤ x.toInt → x.toInt ≤ (I 65).toInt → (40 - x.toInt).toNat < n → (∀ j, j < 64 → hb d j = decide (j < x.toNatClampNeg ∧ ¬ topS (ri 70) (ri 73) (ri 74) (ri 75) j ≤ hi)) → (∀ j, j < 64 → hb k j = decide (j < x.toNatClampNeg ∧ ¬ topS (ri 70) (ri 73) (ri 74) (ri 75) j ≤ lo)) → (∀ j, u j = if j < x.toNatClampNeg then (if topS (ri 70) (ri 73) (ri 74) (ri 75) j ≤ hi then ri 77 j + 1 else 0) else ri 77 j) → ∃ (d2 k2 : Int64) (u2 : Nat → Int32), g_X2_tide_L11 m hi lo I rj rq n k x (va_up J 67 d) (va_up ri 77 u) = (I, va_up J 67 d2, va_up ri 77 u2, va_up rj 68 (vp_updL (rj 68) m.toNatClampNeg k2), rq) ∧ (∀ j, j < 64 → hb d2 j = decide (j < (I 65).toNatClampNeg ∧ ¬ topS (ri 70) (ri 73) (ri 74) (ri 75) j ≤ hi)) ∧ (∀ j, j < 64 → hb k2 j = decide (j < (I 65).toNatClampNeg ∧ ¬ topS (ri 70) (ri 73) (ri 74) (ri 75) j ≤ lo)) ∧ ∀ j, u2 j = if j < (I 65).toNatClampNeg then (if topS (ri 70) (ri 73) (ri 74) (ri 75) j ≤ hi then ri 77 j + 1 else 0) else ri 77 j := by
    intro n
    induction n with
    | zero => intro k x d u _ _ h; exact absurd h (Nat.not_lt_zero _)
    | succ n ih =>
      intro k x d u h1 h2 h3 hd hk hu
      have zx := clampE x
      rw [g_X2_tide_L11_e]
      simp only [↓ap1_n, bnI_u, topOf_v, va_up_ne _ _ (show (70 : Nat) ≠ 77 by decide), va_up_ne _ _ (show (73 : Nat) ≠ 77 by decide), va_up_ne _ _ (show (74 : Nat) ≠ 77 by decide), va_up_ne _ _ (show (75 : Nat) ≠ 77 by decide)]
      by_cases c : I 65 ≤ x
      · have c1 := Int32.le_iff_toInt_le.mp c
        have ex : x.toNatClampNeg = (I 65).toNatClampNeg := by omega
        have k0 : (0 : Int32).toInt = 0 := by decide
        have k6 : (600 : Int32).toInt = 600 := by decide
        rw [if_pos c, if_neg (fun q => by have q1 := Int32.lt_iff_toInt_lt.mp q; omega), if_neg (fun q => by have q1 := Int32.le_iff_toInt_le.mp q; omega)]
        rw [ex] at hd hk hu
        exact ⟨d, k, u, rfl, hd, hk, hu⟩
      · have c1 := Int32.lt_iff_toInt_lt.mp (Int32.not_le.mp c)
        have e := t1_inc (x := x) (by omega) (by omega)
        have z3 := clampE (x + Int32.ofInt 1)
        have hx1 : (x + Int32.ofInt 1).toNatClampNeg = x.toNatClampNeg + 1 := by omega
        rw [if_neg c]
        generalize hT : topS (ri 70) (ri 73) (ri 74) (ri 75) = T at hd hk hu ih ⊢
        -- the ROCKS so far
        have hk1 : ∀ k1 : Int64, (k1 = if T x.toNatClampNeg ≤ lo then k else k ||| ((1 : Int64) <<< (x.toInt64 &&& 63))) → ∀ j, j < 64 → hb k1 j = decide (j < x.toNatClampNeg + 1 ∧ ¬ T j ≤ lo) := fun k1 e1 j hj => by
          rw [e1]
          by_cases q : T x.toNatClampNeg ≤ lo
          · rw [if_pos q, hk j hj]
            by_cases w : j = x.toNatClampNeg
            · subst w; rw [decide_eq_false (fun y => absurd y.1 (Nat.lt_irrefl _)), decide_eq_false (fun y => y.2 q)]
            · exact decide_eq_decide.mpr ⟨fun y => ⟨by omega, y.2⟩, fun y => ⟨by omega, y.2⟩⟩
          · rw [if_neg q, hb_or h1 (by omega) j hj, hk j hj]
            by_cases w : j = x.toNatClampNeg
            · subst w; rw [decide_eq_true (rfl : x.toNatClampNeg = x.toNatClampNeg), Bool.or_true, decide_eq_true ⟨Nat.lt_succ_self _, q⟩]
            · rw [decide_eq_false (show ¬ x.toNatClampNeg = j from fun y => w y.symm), Bool.or_false]
              exact decide_eq_decide.mpr ⟨fun y => ⟨by omega, y.2⟩, fun y => ⟨by omega, y.2⟩⟩
        have step : ∀ k1 : Int64, (∀ j, j < 64 → hb k1 j = decide (j < x.toNatClampNeg + 1 ∧ ¬ T j ≤ lo)) → ∃ (d2 k2 : Int64) (u2 : Nat → Int32), g_X2_tide_K43 hi x (va_up J 67 d) (va_up ri 77 u) (g_X2_tide_L11 m hi lo I rj rq n) (T x.toNatClampNeg) k1 = (I, va_up J 67 d2, va_up ri 77 u2, va_up rj 68 (vp_updL (rj 68) m.toNatClampNeg k2), rq) ∧ (∀ j, j < 64 → hb d2 j = decide (j < (I 65).toNatClampNeg ∧ ¬ T j ≤ hi)) ∧ (∀ j, j < 64 → hb k2 j = decide (j < (I 65).toNatClampNeg ∧ ¬ T j ≤ lo)) ∧ ∀ j, u2 j = if j < (I 65).toNatClampNeg then (if T j ≤ hi then ri 77 j + 1 else 0) else ri 77 j := fun k1 hk2 => by
          simp only [g_X2_tide_K43, g_X2_tide_K84, ↓ap1_n, va_up_self, up_up]
          by_cases q : T x.toNatClampNeg ≤ hi
          · rw [if_pos q]
            refine ih _ _ _ _ (by omega) (by omega) (by omega) (fun j hj => ?_) (by rw [hx1]; exact hk2) (fun j => ?_)
            · rw [hd j hj, hx1]
              by_cases w : j = x.toNatClampNeg
              · subst w; rw [decide_eq_false (fun y => absurd y.1 (Nat.lt_irrefl _)), decide_eq_false (fun y => y.2 q)]
              · exact decide_eq_decide.mpr ⟨fun y => ⟨by omega, y.2⟩, fun y => ⟨by omega, y.2⟩⟩
            · rw [hx1]
              by_cases w : j = x.toNatClampNeg
              · subst w; rw [upd_s, if_pos (Nat.lt_succ_self _), if_pos q, hu, if_neg (Nat.lt_irrefl _)]
              · rw [upd_n _ _ w, hu]
                by_cases w2 : j < x.toNatClampNeg
                · rw [if_pos w2, if_pos (show j < x.toNatClampNeg + 1 by omega)]
                · rw [if_neg w2, if_neg (show ¬ j < x.toNatClampNeg + 1 by omega)]
          · rw [if_neg q]
            refine ih _ _ _ _ (by omega) (by omega) (by omega) (fun j hj => ?_) (by rw [hx1]; exact hk2) (fun j => ?_)
            · rw [hb_or h1 (by omega) j hj, hd j hj, hx1]
              by_cases w : j = x.toNatClampNeg
              · subst w; rw [decide_eq_true (rfl : x.toNatClampNeg = x.toNatClampNeg), Bool.or_true, decide_eq_true ⟨Nat.lt_succ_self _, q⟩]
              · rw [decide_eq_false (show ¬ x.toNatClampNeg = j from fun y => w y.symm), Bool.or_false]
                exact decide_eq_decide.mpr ⟨fun y => ⟨by omega, y.2⟩, fun y => ⟨by omega, y.2⟩⟩
            · rw [hx1]
              by_cases w : j = x.toNatClampNeg
              · subst w; rw [upd_s, if_pos (Nat.lt_succ_self _), if_neg q]
              · rw [upd_n _ _ w, hu]
                by_cases w2 : j < x.toNatClampNeg
                · rw [if_pos w2, if_pos (show j < x.toNatClampNeg + 1 by omega)]
                · rw [if_neg w2, if_neg (show ¬ j < x.toNatClampNeg + 1 by omega)]
        by_cases q : T x.toNatClampNeg ≤ lo
        · rw [if_pos q]
          exact step _ (hk1 _ (if_pos q).symm)
        · rw [if_neg q]
          exact step _ (hk1 _ (if_neg q).symm)
  rw [g_X2_tide_e]
  simp only [↓ap1_n]
  have h := go ((40 - (0 : Int32).toInt).toNat + 1) 0 0 0 (ri 77) (by decide) h0 (Nat.lt_succ_self _) (fun j _ => by rw [hb_0]; exact (decide_eq_false (fun y => absurd y.1 (by rw [show (0 : Int32).toNatClampNeg = 0 from by decide]; exact Nat.not_lt_zero _))).symm) (fun j _ => by rw [hb_0]; exact (decide_eq_false (fun y => absurd y.1 (by rw [show (0 : Int32).toNatClampNeg = 0 from by decide]; exact Nat.not_lt_zero _))).symm) (fun j => (if_neg (by rw [show (0 : Int32).toNatClampNeg = 0 from by decide]; exact Nat.not_lt_zero _)).symm)
  rw [up_id] at h
  exact h
end PU4
