






def w_X12_see_x : wS := ([], [], [], [], [])
theorem g_X12_see_x_f {a0 : Int32} {I : Nat → Int32} {J : Nat → Int64} {ri : Nat → Nat → Int32} {rj : Nat → Nat → Int64} {rq : Nat → Nat → Option Nat}  : FRG Prod.snd w_X12_see_x (I, J, ri, rj, rq) (g_X12_see_x  a0 I J ri rj rq) := by
  rw [g_X12_see_x_e]
  refine fg_ap (fun y_2 => ?_)
  refine fg_if ?_ ?_
  · exact fv_rt rfl
  · refine fg_ap (fun x_12 => ?_)
    exact fv_rt rfl

def w_X12_nextToken_x : wS := ([391, 392, 393, 394], [395], [], [], [])
theorem g_X12_nextToken_x_K343_f {J : Nat → Int64} {ri : Nat → Nat → Int32} {rj : Nat → Nat → Int64} {rq : Nat → Nat → Option Nat} {x_4475 : Int32} {I_4533 : Nat → Int32}  : FRG id w_X12_nextToken_x (I_4533, J, ri, rj, rq) (g_X12_nextToken_x_K343 J ri rj rq x_4475 I_4533 ) := by
  rw [g_X12_nextToken_x_K343_e]
  refine fg_I rfl (fun I_4825 => ?_)
  refine fg_if ?_ ?_
  · refine fg_ap (fun y_4837 => ?_)
    refine fg_bI g_X12_see_x_f rfl (fun x_4838 I_z1 J_z1 ri_z1 rj_z1 rq_z1 h_1 => ?_)
    rw [fe_I h_1, fe_J h_1, fe_ri h_1, fe_rj h_1, fe_rq h_1]
    refine fg_if ?_ ?_
    · refine fg_ap (fun x_4856 => ?_)
      refine fg_I rfl (fun I_4858 => ?_)
      refine fg_I rfl (fun I_4868 => ?_)
      exact fv_rt rfl
    · exact fv_rt rfl
  · refine fg_if ?_ ?_
    · refine fg_ap (fun y_4882 => ?_)
      refine fg_bI g_X12_see_x_f rfl (fun x_4883 I_z2 J_z2 ri_z2 rj_z2 rq_z2 h_2 => ?_)
      rw [fe_I h_2, fe_J h_2, fe_ri h_2, fe_rj h_2, fe_rq h_2]
      refine fg_if ?_ ?_
      · refine fg_ap (fun x_4901 => ?_)
        refine fg_I rfl (fun I_4903 => ?_)
        refine fg_I rfl (fun I_4912 => ?_)
        exact fv_rt rfl
      · exact fv_rt rfl
    · exact fv_rt rfl
theorem g_X12_nextToken_x_K332_f {J : Nat → Int64} {ri : Nat → Nat → Int32} {rj : Nat → Nat → Int64} {rq : Nat → Nat → Option Nat} {x_4475 : Int32} {I_4533 : Nat → Int32}  : FRG id w_X12_nextToken_x (I_4533, J, ri, rj, rq) (g_X12_nextToken_x_K332 J ri rj rq x_4475 I_4533 ) := by
  rw [g_X12_nextToken_x_K332_e]
  exact g_X12_nextToken_x_K343_f 
theorem g_X12_nextToken_x_K343_2_f {J : Nat → Int64} {ri : Nat → Nat → Int32} {rj : Nat → Nat → Int64} {rq : Nat → Nat → Option Nat} {x_4475 : Int32} {I_4533 : Nat → Int32}  : FRG id w_X12_nextToken_x (I_4533, J, ri, rj, rq) (g_X12_nextToken_x_K343_2 J ri rj rq x_4475 I_4533 ) := by
  rw [g_X12_nextToken_x_K343_2_e]
  refine fg_I rfl (fun I_5002 => ?_)
  refine fg_if ?_ ?_
  · refine fg_ap (fun y_5014 => ?_)
    refine fg_bI g_X12_see_x_f rfl (fun x_5015 I_z3 J_z3 ri_z3 rj_z3 rq_z3 h_3 => ?_)
    rw [fe_I h_3, fe_J h_3, fe_ri h_3, fe_rj h_3, fe_rq h_3]
    refine fg_if ?_ ?_
    · refine fg_ap (fun x_5033 => ?_)
      refine fg_I rfl (fun I_5035 => ?_)
      refine fg_I rfl (fun I_5045 => ?_)
      exact fv_rt rfl
    · exact fv_rt rfl
  · refine fg_if ?_ ?_
    · refine fg_ap (fun y_5061 => ?_)
      refine fg_bI g_X12_see_x_f rfl (fun x_5062 I_z4 J_z4 ri_z4 rj_z4 rq_z4 h_4 => ?_)
      rw [fe_I h_4, fe_J h_4, fe_ri h_4, fe_rj h_4, fe_rq h_4]
      refine fg_if ?_ ?_
      · refine fg_ap (fun x_5080 => ?_)
        refine fg_I rfl (fun I_5082 => ?_)
        refine fg_I rfl (fun I_5091 => ?_)
        exact fv_rt rfl
      · exact fv_rt rfl
    · exact fv_rt rfl
theorem g_X12_nextToken_x_K332_2_f {J : Nat → Int64} {ri : Nat → Nat → Int32} {rj : Nat → Nat → Int64} {rq : Nat → Nat → Option Nat} {x_4475 : Int32} {I_4533 : Nat → Int32}  : FRG id w_X12_nextToken_x (I_4533, J, ri, rj, rq) (g_X12_nextToken_x_K332_2 J ri rj rq x_4475 I_4533 ) := by
  rw [g_X12_nextToken_x_K332_2_e]
  exact g_X12_nextToken_x_K343_2_f 
theorem g_X12_nextToken_x_K327_f {J : Nat → Int64} {ri : Nat → Nat → Int32} {rj : Nat → Nat → Int64} {rq : Nat → Nat → Option Nat} {x_4475 : Int32} {I_4533 : Nat → Int32}  : FRG id w_X12_nextToken_x (I_4533, J, ri, rj, rq) (g_X12_nextToken_x_K327 J ri rj rq x_4475 I_4533 ) := by
  rw [g_X12_nextToken_x_K327_e]
  exact g_X12_nextToken_x_K332_2_f 
theorem g_X12_nextToken_x_L161_f {ri : Nat → Nat → Int32} {rj : Nat → Nat → Int64} {rq : Nat → Nat → Option Nat}  : ∀ (n_5522 : Nat) (I_5439 : Nat → Int32) (J_5440 : Nat → Int64), FRG id w_X12_nextToken_x (I_5439, J_5440, ri, rj, rq) (g_X12_nextToken_x_L161 ri rj rq n_5522 I_5439 J_5440) := by
  intro n_5522
  induction n_5522 with
  | zero => intros; exact fv_rt rfl
  | succ n_5522 ih =>
    intro I_5439 J_5440
    rw [g_X12_nextToken_x_L161_e]
    refine fg_ap (fun y_5528 => ?_)
    refine fg_bI g_X12_see_x_f rfl (fun x_5529 I_z5 J_z5 ri_z5 rj_z5 rq_z5 h_5 => ?_)
    rw [fe_I h_5, fe_J h_5, fe_ri h_5, fe_rj h_5, fe_rq h_5]
    refine fg_ap (fun x_5540 => ?_)
    refine fg_if ?_ ?_
    · refine fg_ap (fun y_5560 => ?_)
      refine fg_ap (fun x_5561 => ?_)
      refine fg_if ?_ ?_
      · exact fv_rt rfl
      · refine fg_J rfl (fun J_5572 => ?_)
        exact fv_rt rfl
    · refine fg_ap (fun y_5578 => ?_)
      refine fg_ap (fun x_5579 => ?_)
      refine fg_if ?_ ?_
      · refine fg_ap (fun x_5589 => ?_)
        refine fg_I rfl (fun I_5591 => ?_)
        exact ih _ _
      · refine fg_ap (fun y_5598 => ?_)
        refine fg_ap (fun x_5599 => ?_)
        refine fg_bI g_X12_see_x_f rfl (fun x_5600 I_z6 J_z6 ri_z6 rj_z6 rq_z6 h_6 => ?_)
        rw [fe_I h_6, fe_J h_6, fe_ri h_6, fe_rj h_6, fe_rq h_6]
        refine fg_ap (fun x_5610 => ?_)
        refine fg_ap (fun x_5611 => ?_)
        refine fg_J rfl (fun J_5612 => ?_)
        refine fg_ap (fun x_5614 => ?_)
        refine fg_I rfl (fun I_5616 => ?_)
        exact ih _ _
theorem g_X12_nextToken_x_L85_f {J : Nat → Int64} {ri : Nat → Nat → Int32} {rj : Nat → Nat → Int64} {rq : Nat → Nat → Option Nat}  : ∀ (n_5922 : Nat) (I_5848 : Nat → Int32), FRG id w_X12_nextToken_x (I_5848, J, ri, rj, rq) (g_X12_nextToken_x_L85 J ri rj rq n_5922 I_5848) := by
  intro n_5922
  induction n_5922 with
  | zero => intros; exact fv_rt rfl
  | succ n_5922 ih =>
    intro I_5848
    rw [g_X12_nextToken_x_L85_e]
    refine fg_ap (fun y_5928 => ?_)
    refine fg_bI g_X12_see_x_f rfl (fun x_5929 I_z7 J_z7 ri_z7 rj_z7 rq_z7 h_7 => ?_)
    rw [fe_I h_7, fe_J h_7, fe_ri h_7, fe_rj h_7, fe_rq h_7]
    refine fg_ap (fun x_5940 => ?_)
    refine fg_if ?_ ?_
    · exact fv_rt rfl
    · refine fg_ap (fun y_5963 => ?_)
      refine fg_if ?_ ?_
      · refine fg_ap (fun x_5972 => ?_)
        refine fg_I rfl (fun I_5974 => ?_)
        exact ih _
      · refine fg_ap (fun x_5981 => ?_)
        refine fg_bI g_X12_see_x_f rfl (fun x_5982 I_z8 J_z8 ri_z8 rj_z8 rq_z8 h_8 => ?_)
        rw [fe_I h_8, fe_J h_8, fe_ri h_8, fe_rj h_8, fe_rq h_8]
        refine fg_ap (fun x_5992 => ?_)
        refine fg_ap (fun x_5993 => ?_)
        refine fg_I rfl (fun I_5994 => ?_)
        refine fg_ap (fun y_6000 => ?_)
        refine fg_ap (fun x_6002 => ?_)
        refine fg_I rfl (fun I_6004 => ?_)
        exact ih _
theorem g_X12_nextToken_x_L0_f {J : Nat → Int64} {ri : Nat → Nat → Int32} {rj : Nat → Nat → Int64} {rq : Nat → Nat → Option Nat}  : ∀ (n_4421 : Nat) (I_3315 : Nat → Int32), FRG id w_X12_nextToken_x (I_3315, J, ri, rj, rq) (g_X12_nextToken_x_L0 J ri rj rq n_4421 I_3315) := by
  intro n_4421
  induction n_4421 with
  | zero => intros; exact fv_rt rfl
  | succ n_4421 ih =>
    intro I_3315
    rw [g_X12_nextToken_x_L0_e]
    refine fg_ap (fun y_4427 => ?_)
    refine fg_bI g_X12_see_x_f rfl (fun x_4428 I_z9 J_z9 ri_z9 rj_z9 rq_z9 h_9 => ?_)
    rw [fe_I h_9, fe_J h_9, fe_ri h_9, fe_rj h_9, fe_rq h_9]
    refine fg_if ?_ ?_
    · refine fg_ap (fun x_4445 => ?_)
      refine fg_I rfl (fun I_4447 => ?_)
      exact ih _
    · refine fg_bI g_X12_see_x_f rfl (fun x_4453 I_z10 J_z10 ri_z10 rj_z10 rq_z10 h_10 => ?_)
      rw [fe_I h_10, fe_J h_10, fe_ri h_10, fe_rj h_10, fe_rq h_10]
      refine fg_if ?_ ?_
      · refine fg_ap (fun x_6020 => ?_)
        refine fg_I rfl (fun I_6022 => ?_)
        exact ih _
      · refine fg_I rfl (fun I_4468 => ?_)
        refine fg_ap (fun y_4474 => ?_)
        refine fg_bI g_X12_see_x_f rfl (fun x_4475 I_z11 J_z11 ri_z11 rj_z11 rq_z11 h_11 => ?_)
        rw [fe_I h_11, fe_J h_11, fe_ri h_11, fe_rj h_11, fe_rq h_11]
        refine fg_if ?_ ?_
        · refine fg_ap (fun x_4492 => ?_)
          refine fg_if ?_ ?_
          · refine fg_ap (fun x_4511 => ?_)
            refine fg_if ?_ ?_
            · refine fg_ap (fun x_4531 => ?_)
              refine fg_I rfl (fun I_4533 => ?_)
              refine fg_if ?_ ?_
              · exact g_X12_nextToken_x_K327_f 
              · refine fg_if ?_ ?_
                · exact g_X12_nextToken_x_K327_f 
                · refine fg_if ?_ ?_
                  · exact g_X12_nextToken_x_K327_f 
                  · refine fg_if ?_ ?_
                    · exact g_X12_nextToken_x_K327_f 
                    · refine fg_if ?_ ?_
                      · exact g_X12_nextToken_x_K327_f 
                      · refine fg_if ?_ ?_
                        · exact g_X12_nextToken_x_K327_f 
                        · refine fg_if ?_ ?_
                          · exact g_X12_nextToken_x_K327_f 
                          · refine fg_if ?_ ?_
                            · exact g_X12_nextToken_x_K327_f 
                            · refine fg_if ?_ ?_
                              · exact g_X12_nextToken_x_K327_f 
                              · refine fg_if ?_ ?_
                                · exact g_X12_nextToken_x_K327_f 
                                · refine fg_if ?_ ?_
                                  · exact g_X12_nextToken_x_K327_f 
                                  · refine fg_if ?_ ?_
                                    · exact g_X12_nextToken_x_K327_f 
                                    · exact g_X12_nextToken_x_K332_f 
            · refine fg_I rfl (fun I_5189 => ?_)
              refine fg_J rfl (fun J_5194 => ?_)
              refine fg_ap (fun y_5621 => ?_)
              exact g_X12_nextToken_x_L161_f  _ _ _
          · refine fg_I rfl (fun I_5626 => ?_)
            refine fg_I rfl (fun I_5631 => ?_)
            refine fg_ap (fun y_6009 => ?_)
            exact g_X12_nextToken_x_L85_f  _ _
        · refine fg_I rfl (fun I_6012 => ?_)
          exact fv_rt rfl
theorem g_X12_nextToken_x_f {I : Nat → Int32} {J : Nat → Int64} {ri : Nat → Nat → Int32} {rj : Nat → Nat → Int64} {rq : Nat → Nat → Option Nat}  : FRG id w_X12_nextToken_x (I, J, ri, rj, rq) (g_X12_nextToken_x  I J ri rj rq) := by
  rw [g_X12_nextToken_x_e]
  refine fg_ap (fun y_6027 => ?_)
  exact g_X12_nextToken_x_L0_f  _ _

def w_X12_isWord_x : wS := ([], [], [], [], [])
theorem g_X12_isWord_x_f {a0 : Int64} {I : Nat → Int32} {J : Nat → Int64} {ri : Nat → Nat → Int32} {rj : Nat → Nat → Int64} {rq : Nat → Nat → Option Nat}  : FRG Prod.snd w_X12_isWord_x (I, J, ri, rj, rq) (g_X12_isWord_x  a0 I J ri rj rq) := by
  rw [g_X12_isWord_x_e]
  refine fg_ap (fun y_1 => ?_)
  refine fg_if ?_ ?_
  · refine fg_ap (fun y_9 => ?_)
    refine fg_ap (fun x_10 => ?_)
    refine fg_if ?_ ?_
    · exact fv_rt rfl
    · exact fv_rt rfl
  · exact fv_rt rfl

def w_X12_nameOf_x : wS := ([], [], [], [], [])
theorem g_X12_nameOf_x_f {I : Nat → Int32} {J : Nat → Int64} {ri : Nat → Nat → Int32} {rj : Nat → Nat → Int64} {rq : Nat → Nat → Option Nat}  : FRG Prod.snd w_X12_nameOf_x (I, J, ri, rj, rq) (g_X12_nameOf_x  I J ri rj rq) := by
  rw [g_X12_nameOf_x_e]
  refine fg_ap (fun y_1 => ?_)
  refine fg_if ?_ ?_
  · refine fg_ap (fun y_8 => ?_)
    refine fg_ap (fun x_9 => ?_)
    refine fg_ap (fun x_16 => ?_)
    refine fg_if ?_ ?_
    · exact fv_rt rfl
    · refine fg_ap (fun x_22 => ?_)
      refine fg_ap (fun x_29 => ?_)
      refine fg_if ?_ ?_
      · exact fv_rt rfl
      · refine fg_ap (fun x_35 => ?_)
        refine fg_ap (fun x_42 => ?_)
        refine fg_if ?_ ?_
        · exact fv_rt rfl
        · refine fg_ap (fun x_48 => ?_)
          refine fg_ap (fun x_55 => ?_)
          refine fg_if ?_ ?_
          · exact fv_rt rfl
          · refine fg_ap (fun x_61 => ?_)
            refine fg_ap (fun x_68 => ?_)
            refine fg_if ?_ ?_
            · exact fv_rt rfl
            · refine fg_ap (fun x_74 => ?_)
              refine fg_ap (fun x_81 => ?_)
              refine fg_if ?_ ?_
              · exact fv_rt rfl
              · exact fv_rt rfl
  · exact fv_rt rfl

def w_X12_emit : wS := ([398], [], [384], [], [])
theorem g_X12_emit_f {a0 : Int32} {a1 : Int32} {I : Nat → Int32} {J : Nat → Int64} {ri : Nat → Nat → Int32} {rj : Nat → Nat → Int64} {rq : Nat → Nat → Option Nat}  : FRG id w_X12_emit (I, J, ri, rj, rq) (g_X12_emit  a0 a1 I J ri rj rq) := by
  rw [g_X12_emit_e]
  refine fg_ap (fun y_2 => ?_)
  refine fg_ap (fun x_3 => ?_)
  refine fg_ap (fun y_5 => ?_)
  refine fg_ap (fun x_6 => ?_)
  refine fg_ap (fun x_8 => ?_)
  refine fg_ri rfl (fun r_10 => ?_)
  refine fg_ap (fun x_11 => ?_)
  refine fg_ap (fun x_13 => ?_)
  refine fg_ap (fun x_15 => ?_)
  refine fg_ap (fun x_17 => ?_)
  refine fg_ri rfl (fun r_19 => ?_)
  refine fg_ap (fun x_20 => ?_)
  refine fg_I rfl (fun I_22 => ?_)
  exact fv_rt rfl

def w_X12_push : wS := ([401], [], [400], [], [])
theorem g_X12_push_f {a0 : Int32} {I : Nat → Int32} {J : Nat → Int64} {ri : Nat → Nat → Int32} {rj : Nat → Nat → Int64} {rq : Nat → Nat → Option Nat}  : FRG id w_X12_push (I, J, ri, rj, rq) (g_X12_push  a0 I J ri rj rq) := by
  rw [g_X12_push_e]
  refine fg_ap (fun y_1 => ?_)
  refine fg_ri rfl (fun r_2 => ?_)
  refine fg_ap (fun x_3 => ?_)
  refine fg_I rfl (fun I_5 => ?_)
  exact fv_rt rfl

def w_X12_whole : wS := ([398, 401, 402, 403], [], [384], [], [])
theorem g_X12_whole_L5_f {J : Nat → Int64} {rj : Nat → Nat → Int64} {rq : Nat → Nat → Option Nat}  : ∀ (n_269 : Nat) (I_203 : Nat → Int32) (ri_204 : Nat → Nat → Int32), FRG id w_X12_whole (I_203, J, ri_204, rj, rq) (g_X12_whole_L5 J rj rq n_269 I_203 ri_204) := by
  intro n_269
  induction n_269 with
  | zero => intros; exact fv_rt rfl
  | succ n_269 ih =>
    intro I_203 ri_204
    rw [g_X12_whole_L5_e]
    refine fg_ap (fun y_277 => ?_)
    refine fg_if ?_ ?_
    · exact fv_rt rfl
    · refine fg_ap (fun x_287 => ?_)
      refine fg_ap (fun x_289 => ?_)
      refine fg_if ?_ ?_
      · refine fg_ap (fun x_298 => ?_)
        refine fg_I rfl (fun I_300 => ?_)
        refine fg_ap (fun y_309 => ?_)
        refine fg_ap (fun x_311 => ?_)
        refine fg_I rfl (fun I_313 => ?_)
        refine fg_bV g_X12_emit_f rfl (fun I_324 J_z1 ri_325 rj_z1 rq_z1 h_1 => ?_)
        rw [fe_J h_1, fe_rj h_1, fe_rq h_1]
        exact ih _ _
      · exact fv_rt rfl
theorem g_X12_whole_f {I : Nat → Int32} {J : Nat → Int64} {ri : Nat → Nat → Int32} {rj : Nat → Nat → Int64} {rq : Nat → Nat → Option Nat}  : FRG id w_X12_whole (I, J, ri, rj, rq) (g_X12_whole  I J ri rj rq) := by
  rw [g_X12_whole_e]
  refine fg_I rfl (fun I_1 => ?_)
  refine fg_ap (fun y_344 => ?_)
  exact g_X12_whole_L5_f  _ _ _

def w_X12_settle : wS := ([398, 401], [], [384], [], [])
theorem g_X12_settle_L0_f {a0 : Int32} {J : Nat → Int64} {rj : Nat → Nat → Int64} {rq : Nat → Nat → Option Nat}  : ∀ (n_385 : Nat) (I_309 : Nat → Int32) (ri_310 : Nat → Nat → Int32), FRG id w_X12_settle (I_309, J, ri_310, rj, rq) (g_X12_settle_L0 a0 J rj rq n_385 I_309 ri_310) := by
  intro n_385
  induction n_385 with
  | zero => intros; exact fv_rt rfl
  | succ n_385 ih =>
    intro I_309 ri_310
    rw [g_X12_settle_L0_e]
    refine fg_ap (fun y_397 => ?_)
    refine fg_if ?_ ?_
    · exact fv_rt rfl
    · refine fg_ap (fun x_407 => ?_)
      refine fg_ap (fun x_409 => ?_)
      refine fg_ap (fun x_411 => ?_)
      refine fg_if ?_ ?_
      · exact fv_rt rfl
      · refine fg_ap (fun x_444 => ?_)
        refine fg_I rfl (fun I_446 => ?_)
        refine fg_ap (fun y_456 => ?_)
        refine fg_ap (fun x_457 => ?_)
        refine fg_bV g_X12_emit_f rfl (fun I_461 J_z1 ri_462 rj_z1 rq_z1 h_1 => ?_)
        rw [fe_J h_1, fe_rj h_1, fe_rq h_1]
        exact ih _ _
theorem g_X12_settle_f {a0 : Int32} {I : Nat → Int32} {J : Nat → Int64} {ri : Nat → Nat → Int32} {rj : Nat → Nat → Int64} {rq : Nat → Nat → Option Nat}  : FRG id w_X12_settle (I, J, ri, rj, rq) (g_X12_settle  a0 I J ri rj rq) := by
  rw [g_X12_settle_e]
  refine fg_ap (fun y_2 => ?_)
  refine fg_if ?_ ?_
  · exact fv_rt rfl
  · refine fg_ap (fun x_12 => ?_)
    refine fg_ap (fun x_14 => ?_)
    refine fg_ap (fun x_16 => ?_)
    refine fg_if ?_ ?_
    · exact fv_rt rfl
    · refine fg_ap (fun x_49 => ?_)
      refine fg_I rfl (fun I_51 => ?_)
      refine fg_ap (fun y_61 => ?_)
      refine fg_ap (fun x_62 => ?_)
      refine fg_bV g_X12_emit_f rfl (fun I_66 J_z2 ri_67 rj_z2 rq_z2 h_2 => ?_)
      rw [fe_J h_2, fe_rj h_2, fe_rq h_2]
      refine fg_ap (fun y_481 => ?_)
      exact g_X12_settle_L0_f  _ _ _

def w_X12_hasParen : wS := ([], [], [], [], [])
theorem g_X12_hasParen_L2_f {I : Nat → Int32} {J : Nat → Int64} {ri : Nat → Nat → Int32} {rj : Nat → Nat → Int64} {rq : Nat → Nat → Option Nat}  : ∀ (n_360 : Nat) (x_341 : Int32), FRG Prod.snd w_X12_hasParen (I, J, ri, rj, rq) (g_X12_hasParen_L2 I J ri rj rq n_360 x_341) := by
  intro n_360
  induction n_360 with
  | zero => intros; exact fv_rt rfl
  | succ n_360 ih =>
    intro x_341
    rw [g_X12_hasParen_L2_e]
    refine fg_ap (fun y_366 => ?_)
    refine fg_if ?_ ?_
    · exact fv_rt rfl
    · refine fg_ap (fun x_376 => ?_)
      refine fg_if ?_ ?_
      · exact fv_rt rfl
      · refine fg_ap (fun x_385 => ?_)
        exact ih _
theorem g_X12_hasParen_f {I : Nat → Int32} {J : Nat → Int64} {ri : Nat → Nat → Int32} {rj : Nat → Nat → Int64} {rq : Nat → Nat → Option Nat}  : FRG Prod.snd w_X12_hasParen (I, J, ri, rj, rq) (g_X12_hasParen  I J ri rj rq) := by
  rw [g_X12_hasParen_e]
  exact g_X12_hasParen_L2_f  _ _

def w_X12_goesOn : wS := ([], [], [], [], [])
theorem g_X12_goesOn_f {I : Nat → Int32} {J : Nat → Int64} {ri : Nat → Nat → Int32} {rj : Nat → Nat → Int64} {rq : Nat → Nat → Option Nat}  : FRG Prod.snd w_X12_goesOn (I, J, ri, rj, rq) (g_X12_goesOn  I J ri rj rq) := by
  rw [g_X12_goesOn_e]
  refine fg_ap (fun y_1 => ?_)
  refine fg_if ?_ ?_
  · exact fv_rt rfl
  · refine fg_if ?_ ?_
    · exact fv_rt rfl
    · refine fg_if ?_ ?_
      · exact fv_rt rfl
      · refine fg_if ?_ ?_
        · exact fv_rt rfl
        · refine fg_if ?_ ?_
          · refine fg_bI g_X12_hasParen_f rfl (fun x_37 I_z1 J_z1 ri_z1 rj_z1 rq_z1 h_1 => ?_)
            rw [fe_I h_1, fe_J h_1, fe_ri h_1, fe_rj h_1, fe_rq h_1]
            refine fg_if ?_ ?_
            · exact fv_rt rfl
            · exact fv_rt rfl
          · exact fv_rt rfl

def w_X12_beginOne : wS := ([391, 392, 393, 394, 398, 401, 402, 403], [395], [384, 400], [], [])
theorem g_X12_beginOne_f {I : Nat → Int32} {J : Nat → Int64} {ri : Nat → Nat → Int32} {rj : Nat → Nat → Int64} {rq : Nat → Nat → Option Nat}  : FRG Prod.snd w_X12_beginOne (I, J, ri, rj, rq) (g_X12_beginOne  I J ri rj rq) := by
  rw [g_X12_beginOne_e]
  refine fg_ap (fun y_1 => ?_)
  refine fg_if ?_ ?_
  · refine fg_ap (fun y_469 => ?_)
    refine fg_if ?_ ?_
    · refine fg_bV g_X12_emit_f rfl (fun I_493 J_z1 ri_494 rj_z1 rq_z1 h_1 => ?_)
      rw [fe_J h_1, fe_rj h_1, fe_rq h_1]
      refine fg_bV g_X12_nextToken_x_f rfl (fun I_516 J_517 ri_z2 rj_z2 rq_z2 h_2 => ?_)
      rw [fe_ri h_2, fe_rj h_2, fe_rq h_2]
      refine fg_bV g_X12_whole_f rfl (fun I_537 J_z3 ri_538 rj_z3 rq_z3 h_3 => ?_)
      rw [fe_J h_3, fe_rj h_3, fe_rq h_3]
      exact fv_rt rfl
    · exact fv_rt rfl
  · refine fg_if ?_ ?_
    · refine fg_ap (fun y_23 => ?_)
      refine fg_bV g_X12_emit_f rfl (fun I_26 J_z4 ri_27 rj_z4 rq_z4 h_4 => ?_)
      rw [fe_J h_4, fe_rj h_4, fe_rq h_4]
      refine fg_bV g_X12_nextToken_x_f rfl (fun I_49 J_50 ri_z5 rj_z5 rq_z5 h_5 => ?_)
      rw [fe_ri h_5, fe_rj h_5, fe_rq h_5]
      refine fg_bV g_X12_whole_f rfl (fun I_70 J_z6 ri_71 rj_z6 rq_z6 h_6 => ?_)
      rw [fe_J h_6, fe_rj h_6, fe_rq h_6]
      exact fv_rt rfl
    · refine fg_bI g_X12_nameOf_x_f rfl (fun x_85 I_z7 J_z7 ri_z7 rj_z7 rq_z7 h_7 => ?_)
      rw [fe_I h_7, fe_J h_7, fe_ri h_7, fe_rj h_7, fe_rq h_7]
      refine fg_if ?_ ?_
      · refine fg_if ?_ ?_
        · refine fg_ap (fun y_107 => ?_)
          refine fg_if ?_ ?_
          · exact fv_rt rfl
          · refine fg_ap (fun x_114 => ?_)
            refine fg_I rfl (fun I_116 => ?_)
            refine fg_ap (fun y_126 => ?_)
            refine fg_bV g_X12_push_f rfl (fun I_134 J_z8 ri_135 rj_z8 rq_z8 h_8 => ?_)
            rw [fe_J h_8, fe_rj h_8, fe_rq h_8]
            refine fg_bV g_X12_nextToken_x_f rfl (fun I_156 J_157 ri_z9 rj_z9 rq_z9 h_9 => ?_)
            rw [fe_ri h_9, fe_rj h_9, fe_rq h_9]
            exact fv_rt rfl
        · refine fg_if ?_ ?_
          · refine fg_ap (fun y_184 => ?_)
            refine fg_if ?_ ?_
            · exact fv_rt rfl
            · refine fg_ap (fun x_191 => ?_)
              refine fg_I rfl (fun I_193 => ?_)
              refine fg_ap (fun y_203 => ?_)
              refine fg_bV g_X12_push_f rfl (fun I_210 J_z10 ri_211 rj_z10 rq_z10 h_10 => ?_)
              rw [fe_J h_10, fe_rj h_10, fe_rq h_10]
              refine fg_bV g_X12_nextToken_x_f rfl (fun I_232 J_233 ri_z11 rj_z11 rq_z11 h_11 => ?_)
              rw [fe_ri h_11, fe_rj h_11, fe_rq h_11]
              exact fv_rt rfl
          · exact fv_rt rfl
      · refine fg_if ?_ ?_
        · refine fg_ap (fun y_406 => ?_)
          refine fg_bV g_X12_emit_f rfl (fun I_409 J_z12 ri_410 rj_z12 rq_z12 h_12 => ?_)
          rw [fe_J h_12, fe_rj h_12, fe_rq h_12]
          refine fg_bV g_X12_nextToken_x_f rfl (fun I_432 J_433 ri_z13 rj_z13 rq_z13 h_13 => ?_)
          rw [fe_ri h_13, fe_rj h_13, fe_rq h_13]
          refine fg_bV g_X12_whole_f rfl (fun I_453 J_z14 ri_454 rj_z14 rq_z14 h_14 => ?_)
          rw [fe_J h_14, fe_rj h_14, fe_rq h_14]
          exact fv_rt rfl
        · refine fg_if ?_ ?_
          · refine fg_ap (fun y_338 => ?_)
            refine fg_bV g_X12_emit_f rfl (fun I_341 J_z15 ri_342 rj_z15 rq_z15 h_15 => ?_)
            rw [fe_J h_15, fe_rj h_15, fe_rq h_15]
            refine fg_bV g_X12_nextToken_x_f rfl (fun I_364 J_365 ri_z16 rj_z16 rq_z16 h_16 => ?_)
            rw [fe_ri h_16, fe_rj h_16, fe_rq h_16]
            refine fg_bV g_X12_whole_f rfl (fun I_385 J_z17 ri_386 rj_z17 rq_z17 h_17 => ?_)
            rw [fe_J h_17, fe_rj h_17, fe_rq h_17]
            exact fv_rt rfl
          · refine fg_bI g_X12_nameOf_x_f rfl (fun x_267 I_z18 J_z18 ri_z18 rj_z18 rq_z18 h_18 => ?_)
            rw [fe_I h_18, fe_J h_18, fe_ri h_18, fe_rj h_18, fe_rq h_18]
            refine fg_bV g_X12_emit_f rfl (fun I_278 J_z19 ri_279 rj_z19 rq_z19 h_19 => ?_)
            rw [fe_J h_19, fe_rj h_19, fe_rq h_19]
            refine fg_bV g_X12_nextToken_x_f rfl (fun I_301 J_302 ri_z20 rj_z20 rq_z20 h_20 => ?_)
            rw [fe_ri h_20, fe_rj h_20, fe_rq h_20]
            refine fg_bV g_X12_whole_f rfl (fun I_322 J_z21 ri_323 rj_z21 rq_z21 h_21 => ?_)
            rw [fe_J h_21, fe_rj h_21, fe_rq h_21]
            exact fv_rt rfl

def w_X12_behindOne : wS := ([391, 392, 393, 394, 398, 401, 402, 403], [395], [384, 400], [], [])
theorem g_X12_behindOne_f {I : Nat → Int32} {J : Nat → Int64} {ri : Nat → Nat → Int32} {rj : Nat → Nat → Int64} {rq : Nat → Nat → Option Nat}  : FRG id w_X12_behindOne (I, J, ri, rj, rq) (g_X12_behindOne  I J ri rj rq) := by
  rw [g_X12_behindOne_e]
  refine fg_ap (fun y_1 => ?_)
  refine fg_bV g_X12_nextToken_x_f rfl (fun I_5 J_6 ri_z1 rj_z1 rq_z1 h_1 => ?_)
  rw [fe_ri h_1, fe_rj h_1, fe_rq h_1]
  refine fg_if ?_ ?_
  · refine fg_bV g_X12_settle_f rfl (fun I_326 J_z2 ri_327 rj_z2 rq_z2 h_2 => ?_)
    rw [fe_J h_2, fe_rj h_2, fe_rq h_2]
    refine fg_ap (fun y_345 => ?_)
    refine fg_ap (fun x_346 => ?_)
    refine fg_I rfl (fun I_348 => ?_)
    refine fg_ap (fun y_358 => ?_)
    refine fg_ap (fun x_360 => ?_)
    refine fg_I rfl (fun I_362 => ?_)
    refine fg_bV g_X12_whole_f rfl (fun I_373 J_z3 ri_374 rj_z3 rq_z3 h_3 => ?_)
    rw [fe_J h_3, fe_rj h_3, fe_rq h_3]
    exact fv_rt rfl
  · refine fg_if ?_ ?_
    · refine fg_bV g_X12_settle_f rfl (fun I_38 J_z4 ri_39 rj_z4 rq_z4 h_4 => ?_)
      rw [fe_J h_4, fe_rj h_4, fe_rq h_4]
      refine fg_bV g_X12_push_f rfl (fun I_63 J_z5 ri_64 rj_z5 rq_z5 h_5 => ?_)
      rw [fe_J h_5, fe_rj h_5, fe_rq h_5]
      refine fg_I rfl (fun I_82 => ?_)
      exact fv_rt rfl
    · refine fg_if ?_ ?_
      · refine fg_bV g_X12_settle_f rfl (fun I_264 J_z6 ri_265 rj_z6 rq_z6 h_6 => ?_)
        rw [fe_J h_6, fe_rj h_6, fe_rq h_6]
        refine fg_bV g_X12_push_f rfl (fun I_293 J_z7 ri_294 rj_z7 rq_z7 h_7 => ?_)
        rw [fe_J h_7, fe_rj h_7, fe_rq h_7]
        refine fg_I rfl (fun I_312 => ?_)
        exact fv_rt rfl
      · refine fg_bV g_X12_settle_f rfl (fun I_100 J_z8 ri_101 rj_z8 rq_z8 h_8 => ?_)
        rw [fe_J h_8, fe_rj h_8, fe_rq h_8]
        refine fg_if ?_ ?_
        · refine fg_bV g_X12_push_f rfl (fun I_231 J_z9 ri_232 rj_z9 rq_z9 h_9 => ?_)
          rw [fe_J h_9, fe_rj h_9, fe_rq h_9]
          refine fg_I rfl (fun I_250 => ?_)
          exact fv_rt rfl
        · refine fg_if ?_ ?_
          · refine fg_bV g_X12_push_f rfl (fun I_199 J_z10 ri_200 rj_z10 rq_z10 h_10 => ?_)
            rw [fe_J h_10, fe_rj h_10, fe_rq h_10]
            refine fg_I rfl (fun I_218 => ?_)
            exact fv_rt rfl
          · refine fg_if ?_ ?_
            · refine fg_bV g_X12_push_f rfl (fun I_167 J_z11 ri_168 rj_z11 rq_z11 h_11 => ?_)
              rw [fe_J h_11, fe_rj h_11, fe_rq h_11]
              refine fg_I rfl (fun I_186 => ?_)
              exact fv_rt rfl
            · refine fg_bV g_X12_push_f rfl (fun I_135 J_z12 ri_136 rj_z12 rq_z12 h_12 => ?_)
              rw [fe_J h_12, fe_rj h_12, fe_rq h_12]
              refine fg_I rfl (fun I_154 => ?_)
              exact fv_rt rfl

def w_X12_sum : wS := ([391, 392, 393, 394, 398, 401, 402, 403], [395], [384, 400], [], [])
theorem g_X12_sum_L10_f {rj : Nat → Nat → Int64} {rq : Nat → Nat → Option Nat}  : ∀ (n_324 : Nat) (I_231 : Nat → Int32) (J_232 : Nat → Int64) (ri_233 : Nat → Nat → Int32), FRG Prod.snd w_X12_sum (I_231, J_232, ri_233, rj, rq) (g_X12_sum_L10 rj rq n_324 I_231 J_232 ri_233) := by
  intro n_324
  induction n_324 with
  | zero => intros; exact fv_rt rfl
  | succ n_324 ih =>
    intro I_231 J_232 ri_233
    rw [g_X12_sum_L10_e]
    refine fg_ap (fun y_332 => ?_)
    refine fg_if ?_ ?_
    · refine fg_bI g_X12_beginOne_f rfl (fun x_344 I_346 J_347 ri_348 rj_z1 rq_z1 h_1 => ?_)
      rw [fe_rj h_1, fe_rq h_1]
      refine fg_if ?_ ?_
      · exact ih _ _ _
      · exact fv_rt rfl
    · refine fg_bI g_X12_goesOn_f rfl (fun x_369 I_z2 J_z2 ri_z2 rj_z2 rq_z2 h_2 => ?_)
      rw [fe_I h_2, fe_J h_2, fe_ri h_2, fe_rj h_2, fe_rq h_2]
      refine fg_if ?_ ?_
      · refine fg_bV g_X12_settle_f rfl (fun I_389 J_z3 ri_390 rj_z3 rq_z3 h_3 => ?_)
        rw [fe_J h_3, fe_rj h_3, fe_rq h_3]
        refine fg_ap (fun y_408 => ?_)
        refine fg_if ?_ ?_
        · exact fv_rt rfl
        · exact fv_rt rfl
      · refine fg_bV g_X12_behindOne_f rfl (fun I_428 J_429 ri_430 rj_z4 rq_z4 h_4 => ?_)
        rw [fe_rj h_4, fe_rq h_4]
        exact ih _ _ _
theorem g_X12_sum_f {I : Nat → Int32} {J : Nat → Int64} {ri : Nat → Nat → Int32} {rj : Nat → Nat → Int64} {rq : Nat → Nat → Option Nat}  : FRG Prod.snd w_X12_sum (I, J, ri, rj, rq) (g_X12_sum  I J ri rj rq) := by
  rw [g_X12_sum_e]
  refine fg_I rfl (fun I_1 => ?_)
  refine fg_I rfl (fun I_10 => ?_)
  refine fg_ap (fun y_440 => ?_)
  refine fg_ap (fun y_441 => ?_)
  exact g_X12_sum_L10_f  _ _ _ _

def w_X12_compareOf : wS := ([], [], [], [], [])
theorem g_X12_compareOf_f {I : Nat → Int32} {J : Nat → Int64} {ri : Nat → Nat → Int32} {rj : Nat → Nat → Int64} {rq : Nat → Nat → Option Nat}  : FRG Prod.snd w_X12_compareOf (I, J, ri, rj, rq) (g_X12_compareOf  I J ri rj rq) := by
  rw [g_X12_compareOf_e]
  refine fg_ap (fun y_1 => ?_)
  refine fg_if ?_ ?_
  · exact fv_rt rfl
  · refine fg_if ?_ ?_
    · exact fv_rt rfl
    · refine fg_if ?_ ?_
      · exact fv_rt rfl
      · refine fg_if ?_ ?_
        · exact fv_rt rfl
        · refine fg_if ?_ ?_
          · exact fv_rt rfl
          · refine fg_if ?_ ?_
            · exact fv_rt rfl
            · exact fv_rt rfl

def w_X12_ask : wS := ([391, 392, 393, 394, 398, 401, 402, 403], [395], [384, 400], [], [])
theorem g_X12_ask_L105_f {rj : Nat → Nat → Int64} {rq : Nat → Nat → Option Nat} {x_2268 : Int32} {J_2834 : Nat → Int64}  : ∀ (n_3141 : Nat) (x_3103 : Int32) (I_3104 : Nat → Int32) (ri_3105 : Nat → Nat → Int32), FRG Prod.snd w_X12_ask (I_3104, J_2834, ri_3105, rj, rq) (g_X12_ask_L105 rj rq x_2268 J_2834 n_3141 x_3103 I_3104 ri_3105) := by
  intro n_3141
  induction n_3141 with
  | zero => intros; exact fv_rt rfl
  | succ n_3141 ih =>
    intro x_3103 I_3104 ri_3105
    rw [g_X12_ask_L105_e]
    refine fg_if ?_ ?_
    · exact fv_rt rfl
    · refine fg_bV g_X12_emit_f rfl (fun I_3164 J_z1 ri_3165 rj_z1 rq_z1 h_1 => ?_)
      rw [fe_J h_1, fe_rj h_1, fe_rq h_1]
      refine fg_ap (fun x_3184 => ?_)
      exact ih _ _ _
theorem g_X12_ask_L2_f {ri : Nat → Nat → Int32} {rj : Nat → Nat → Int64} {rq : Nat → Nat → Option Nat}  : ∀ (n_2737 : Nat) (x_2268 : Int32) (I_2269 : Nat → Int32) (J_2270 : Nat → Int64), FRG Prod.snd w_X12_ask (I_2269, J_2270, ri, rj, rq) (g_X12_ask_L2 ri rj rq n_2737 x_2268 I_2269 J_2270) := by
  intro n_2737
  induction n_2737 with
  | zero => intros; exact fv_rt rfl
  | succ n_2737 ih =>
    intro x_2268 I_2269 J_2270
    rw [g_X12_ask_L2_e]
    refine fg_ap (fun x_2748 => ?_)
    refine fg_bI g_X12_isWord_x_f rfl (fun x_2755 I_z2 J_z2 ri_z2 rj_z2 rq_z2 h_2 => ?_)
    rw [fe_I h_2, fe_J h_2, fe_ri h_2, fe_rj h_2, fe_rq h_2]
    refine fg_if ?_ ?_
    · refine fg_bI g_X12_sum_f rfl (fun x_2773 I_2775 J_2776 ri_2777 rj_z3 rq_z3 h_3 => ?_)
      rw [fe_rj h_3, fe_rq h_3]
      refine fg_if ?_ ?_
      · refine fg_bI g_X12_compareOf_f rfl (fun x_2793 I_z4 J_z4 ri_z4 rj_z4 rq_z4 h_4 => ?_)
        rw [fe_I h_4, fe_J h_4, fe_ri h_4, fe_rj h_4, fe_rq h_4]
        refine fg_if ?_ ?_
        · refine fg_bV g_X12_nextToken_x_f rfl (fun I_2812 J_2813 ri_z5 rj_z5 rq_z5 h_5 => ?_)
          rw [fe_ri h_5, fe_rj h_5, fe_rq h_5]
          refine fg_bI g_X12_sum_f rfl (fun x_2831 I_2833 J_2834 ri_2835 rj_z6 rq_z6 h_6 => ?_)
          rw [fe_rj h_6, fe_rq h_6]
          refine fg_if ?_ ?_
          · refine fg_bV g_X12_emit_f rfl (fun I_2853 J_z7 ri_2854 rj_z7 rq_z7 h_7 => ?_)
            rw [fe_J h_7, fe_rj h_7, fe_rq h_7]
            refine fg_ap (fun y_2873 => ?_)
            refine fg_ap (fun x_2875 => ?_)
            refine fg_I rfl (fun I_2877 => ?_)
            exact g_X12_ask_L105_f  _ _ _ _
          · exact fv_rt rfl
        · exact fv_rt rfl
      · exact fv_rt rfl
    · refine fg_ap (fun y_3195 => ?_)
      refine fg_if ?_ ?_
      · exact fv_rt rfl
      · refine fg_ap (fun x_3202 => ?_)
        refine fg_I rfl (fun I_3204 => ?_)
        refine fg_ap (fun x_3214 => ?_)
        refine fg_bV g_X12_nextToken_x_f rfl (fun I_3219 J_3220 ri_z8 rj_z8 rq_z8 h_8 => ?_)
        rw [fe_ri h_8, fe_rj h_8, fe_rq h_8]
        exact ih _ _ _
theorem g_X12_ask_f {I : Nat → Int32} {J : Nat → Int64} {ri : Nat → Nat → Int32} {rj : Nat → Nat → Int64} {rq : Nat → Nat → Option Nat}  : FRG Prod.snd w_X12_ask (I, J, ri, rj, rq) (g_X12_ask  I J ri rj rq) := by
  rw [g_X12_ask_e]
  refine fg_ap (fun y_3240 => ?_)
  refine fg_ap (fun y_3241 => ?_)
  exact g_X12_ask_L2_f  _ _ _ _

def w_X12_either : wS := ([391, 392, 393, 394, 398, 401, 402, 403], [395], [384, 400], [], [])
theorem g_X12_either_L6_f {rj : Nat → Nat → Int64} {rq : Nat → Nat → Option Nat}  : ∀ (n_2607 : Nat) (x_1949 : Int32) (x_1950 : Int32) (x_1951 : Int32) (I_1952 : Nat → Int32) (J_1953 : Nat → Int64) (ri_1954 : Nat → Nat → Int32), FRG Prod.snd w_X12_either (I_1952, J_1953, ri_1954, rj, rq) (g_X12_either_L6 rj rq n_2607 x_1949 x_1950 x_1951 I_1952 J_1953 ri_1954) := by
  intro n_2607
  induction n_2607 with
  | zero => intros; exact fv_rt rfl
  | succ n_2607 ih =>
    intro x_1949 x_1950 x_1951 I_1952 J_1953 ri_1954
    rw [g_X12_either_L6_e]
    refine fg_if ?_ ?_
    · exact fv_rt rfl
    · refine fg_bI g_X12_ask_f rfl (fun x_2629 I_2631 J_2632 ri_2633 rj_z1 rq_z1 h_1 => ?_)
      rw [fe_rj h_1, fe_rq h_1]
      refine fg_if ?_ ?_
      · refine fg_if ?_ ?_
        · refine fg_ap (fun x_2656 => ?_)
          refine fg_bI g_X12_isWord_x_f rfl (fun x_2663 I_z2 J_z2 ri_z2 rj_z2 rq_z2 h_2 => ?_)
          rw [fe_I h_2, fe_J h_2, fe_ri h_2, fe_rj h_2, fe_rq h_2]
          refine fg_ap (fun y_2671 => ?_)
          refine fg_if ?_ ?_
          · refine fg_ap (fun y_2777 => ?_)
            refine fg_ap (fun x_2778 => ?_)
            refine fg_if ?_ ?_
            · refine fg_if ?_ ?_
              · refine fg_if ?_ ?_
                · refine fg_bV g_X12_nextToken_x_f rfl (fun I_2950 J_2951 ri_z3 rj_z3 rq_z3 h_3 => ?_)
                  rw [fe_ri h_3, fe_rj h_3, fe_rq h_3]
                  exact ih _ _ _ _ _ _
                · refine fg_bV g_X12_emit_f rfl (fun I_2973 J_z4 ri_2974 rj_z4 rq_z4 h_4 => ?_)
                  rw [fe_J h_4, fe_rj h_4, fe_rq h_4]
                  refine fg_bV g_X12_nextToken_x_f rfl (fun I_3007 J_3008 ri_z5 rj_z5 rq_z5 h_5 => ?_)
                  rw [fe_ri h_5, fe_rj h_5, fe_rq h_5]
                  exact ih _ _ _ _ _ _
              · refine fg_bV g_X12_nextToken_x_f rfl (fun I_2905 J_2906 ri_z6 rj_z6 rq_z6 h_6 => ?_)
                rw [fe_ri h_6, fe_rj h_6, fe_rq h_6]
                exact ih _ _ _ _ _ _
            · refine fg_if ?_ ?_
              · refine fg_if ?_ ?_
                · exact ih _ _ _ _ _ _
                · refine fg_bV g_X12_emit_f rfl (fun I_2851 J_z7 ri_2852 rj_z7 rq_z7 h_7 => ?_)
                  rw [fe_J h_7, fe_rj h_7, fe_rq h_7]
                  exact ih _ _ _ _ _ _
              · refine fg_bV g_X12_nextToken_x_f rfl (fun I_2805 J_2806 ri_z8 rj_z8 rq_z8 h_8 => ?_)
                rw [fe_ri h_8, fe_rj h_8, fe_rq h_8]
                exact ih _ _ _ _ _ _
          · refine fg_if ?_ ?_
            · refine fg_if ?_ ?_
              · exact ih _ _ _ _ _ _
              · refine fg_bV g_X12_emit_f rfl (fun I_2744 J_z9 ri_2745 rj_z9 rq_z9 h_9 => ?_)
                rw [fe_J h_9, fe_rj h_9, fe_rq h_9]
                exact ih _ _ _ _ _ _
            · refine fg_bV g_X12_nextToken_x_f rfl (fun I_2698 J_2699 ri_z10 rj_z10 rq_z10 h_10 => ?_)
              rw [fe_ri h_10, fe_rj h_10, fe_rq h_10]
              exact ih _ _ _ _ _ _
        · refine fg_bV g_X12_emit_f rfl (fun I_3030 J_z11 ri_3031 rj_z11 rq_z11 h_11 => ?_)
          rw [fe_J h_11, fe_rj h_11, fe_rq h_11]
          refine fg_ap (fun x_3050 => ?_)
          refine fg_bI g_X12_isWord_x_f rfl (fun x_3057 I_z12 J_z12 ri_z12 rj_z12 rq_z12 h_12 => ?_)
          rw [fe_I h_12, fe_J h_12, fe_ri h_12, fe_rj h_12, fe_rq h_12]
          refine fg_ap (fun y_3065 => ?_)
          refine fg_if ?_ ?_
          · refine fg_ap (fun y_3171 => ?_)
            refine fg_ap (fun x_3172 => ?_)
            refine fg_if ?_ ?_
            · refine fg_if ?_ ?_
              · refine fg_if ?_ ?_
                · refine fg_bV g_X12_nextToken_x_f rfl (fun I_3344 J_3345 ri_z13 rj_z13 rq_z13 h_13 => ?_)
                  rw [fe_ri h_13, fe_rj h_13, fe_rq h_13]
                  exact ih _ _ _ _ _ _
                · refine fg_bV g_X12_emit_f rfl (fun I_3367 J_z14 ri_3368 rj_z14 rq_z14 h_14 => ?_)
                  rw [fe_J h_14, fe_rj h_14, fe_rq h_14]
                  refine fg_bV g_X12_nextToken_x_f rfl (fun I_3401 J_3402 ri_z15 rj_z15 rq_z15 h_15 => ?_)
                  rw [fe_ri h_15, fe_rj h_15, fe_rq h_15]
                  exact ih _ _ _ _ _ _
              · refine fg_bV g_X12_nextToken_x_f rfl (fun I_3299 J_3300 ri_z16 rj_z16 rq_z16 h_16 => ?_)
                rw [fe_ri h_16, fe_rj h_16, fe_rq h_16]
                exact ih _ _ _ _ _ _
            · refine fg_if ?_ ?_
              · refine fg_if ?_ ?_
                · exact ih _ _ _ _ _ _
                · refine fg_bV g_X12_emit_f rfl (fun I_3245 J_z17 ri_3246 rj_z17 rq_z17 h_17 => ?_)
                  rw [fe_J h_17, fe_rj h_17, fe_rq h_17]
                  exact ih _ _ _ _ _ _
              · refine fg_bV g_X12_nextToken_x_f rfl (fun I_3199 J_3200 ri_z18 rj_z18 rq_z18 h_18 => ?_)
                rw [fe_ri h_18, fe_rj h_18, fe_rq h_18]
                exact ih _ _ _ _ _ _
          · refine fg_if ?_ ?_
            · refine fg_if ?_ ?_
              · exact ih _ _ _ _ _ _
              · refine fg_bV g_X12_emit_f rfl (fun I_3138 J_z19 ri_3139 rj_z19 rq_z19 h_19 => ?_)
                rw [fe_J h_19, fe_rj h_19, fe_rq h_19]
                exact ih _ _ _ _ _ _
            · refine fg_bV g_X12_nextToken_x_f rfl (fun I_3092 J_3093 ri_z20 rj_z20 rq_z20 h_20 => ?_)
              rw [fe_ri h_20, fe_rj h_20, fe_rq h_20]
              exact ih _ _ _ _ _ _
      · exact fv_rt rfl
theorem g_X12_either_f {I : Nat → Int32} {J : Nat → Int64} {ri : Nat → Nat → Int32} {rj : Nat → Nat → Int64} {rq : Nat → Nat → Option Nat}  : FRG Prod.snd w_X12_either (I, J, ri, rj, rq) (g_X12_either  I J ri rj rq) := by
  rw [g_X12_either_e]
  refine fg_ap (fun y_3422 => ?_)
  refine fg_ap (fun y_3423 => ?_)
  exact g_X12_either_L6_f  _ _ _ _ _ _ _




def w_X12_nameOf_d : wS := ([], [], [], [], [])
theorem g_X12_nameOf_d_f {I : Nat → Int32} {J : Nat → Int64} {ri : Nat → Nat → Int32} {rj : Nat → Nat → Int64} {rq : Nat → Nat → Option Nat}  : FRG Prod.snd w_X12_nameOf_d (I, J, ri, rj, rq) (g_X12_nameOf_d  I J ri rj rq) := by
  rw [g_X12_nameOf_d_e]
  refine fg_ap (fun y_1 => ?_)
  refine fg_if ?_ ?_
  · refine fg_ap (fun y_8 => ?_)
    refine fg_ap (fun x_9 => ?_)
    refine fg_ap (fun x_17 => ?_)
    refine fg_if ?_ ?_
    · exact fv_rt rfl
    · refine fg_ap (fun x_24 => ?_)
      refine fg_ap (fun x_32 => ?_)
      refine fg_if ?_ ?_
      · exact fv_rt rfl
      · refine fg_ap (fun x_39 => ?_)
        refine fg_ap (fun x_47 => ?_)
        refine fg_if ?_ ?_
        · exact fv_rt rfl
        · refine fg_ap (fun x_54 => ?_)
          refine fg_ap (fun x_62 => ?_)
          refine fg_if ?_ ?_
          · exact fv_rt rfl
          · refine fg_ap (fun x_69 => ?_)
            refine fg_ap (fun x_77 => ?_)
            refine fg_if ?_ ?_
            · exact fv_rt rfl
            · refine fg_ap (fun x_84 => ?_)
              refine fg_ap (fun x_92 => ?_)
              refine fg_if ?_ ?_
              · exact fv_rt rfl
              · exact fv_rt rfl
  · exact fv_rt rfl

def w_X12_keys : wS := ([391, 392, 393, 394], [395], [384], [], [])
theorem g_X12_keys_L11_f {a0 : Int32} {rj : Nat → Nat → Int64} {rq : Nat → Nat → Option Nat}  : ∀ (n_1530 : Nat) (x_1222 : Int32) (I_1223 : Nat → Int32) (J_1224 : Nat → Int64) (ri_1225 : Nat → Nat → Int32), FRG Prod.snd w_X12_keys (I_1223, J_1224, ri_1225, rj, rq) (g_X12_keys_L11 a0 rj rq n_1530 x_1222 I_1223 J_1224 ri_1225) := by
  intro n_1530
  induction n_1530 with
  | zero => intros; exact fv_rt rfl
  | succ n_1530 ih =>
    intro x_1222 I_1223 J_1224 ri_1225
    rw [g_X12_keys_L11_e]
    refine fg_if ?_ ?_
    · exact fv_rt rfl
    · refine fg_ap (fun y_1550 => ?_)
      refine fg_if ?_ ?_
      · refine fg_ap (fun x_1763 => ?_)
        refine fg_ap (fun x_1765 => ?_)
        refine fg_if ?_ ?_
        · exact fv_rt rfl
        · refine fg_bV g_X12_nextToken_x_f rfl (fun I_1779 J_1780 ri_z1 rj_z1 rq_z1 h_1 => ?_)
          rw [fe_ri h_1, fe_rj h_1, fe_rq h_1]
          refine fg_bI g_X12_nameOf_d_f rfl (fun x_1791 I_z2 J_z2 ri_z2 rj_z2 rq_z2 h_2 => ?_)
          rw [fe_I h_2, fe_J h_2, fe_ri h_2, fe_rj h_2, fe_rq h_2]
          refine fg_if ?_ ?_
          · refine fg_ap (fun x_1806 => ?_)
            refine fg_ap (fun x_1808 => ?_)
            refine fg_ap (fun x_1810 => ?_)
            refine fg_ap (fun x_1814 => ?_)
            refine fg_bI g_X12_nameOf_d_f rfl (fun x_1817 I_z3 J_z3 ri_z3 rj_z3 rq_z3 h_3 => ?_)
            rw [fe_I h_3, fe_J h_3, fe_ri h_3, fe_rj h_3, fe_rq h_3]
            refine fg_ap (fun x_1825 => ?_)
            refine fg_ri rfl (fun r_1827 => ?_)
            refine fg_ap (fun x_1828 => ?_)
            refine fg_ap (fun x_1830 => ?_)
            refine fg_ap (fun x_1833 => ?_)
            refine fg_ri rfl (fun r_1835 => ?_)
            refine fg_bV g_X12_nextToken_x_f rfl (fun I_1839 J_1840 ri_z4 rj_z4 rq_z4 h_4 => ?_)
            rw [fe_ri h_4, fe_rj h_4, fe_rq h_4]
            refine fg_ap (fun y_1851 => ?_)
            refine fg_if ?_ ?_
            · refine fg_bV g_X12_nextToken_x_f rfl (fun I_1864 J_1865 ri_z5 rj_z5 rq_z5 h_5 => ?_)
              rw [fe_ri h_5, fe_rj h_5, fe_rq h_5]
              exact ih _ _ _ _
            · exact ih _ _ _ _
          · exact fv_rt rfl
      · refine fg_bI g_X12_nameOf_d_f rfl (fun x_1557 I_z6 J_z6 ri_z6 rj_z6 rq_z6 h_6 => ?_)
        rw [fe_I h_6, fe_J h_6, fe_ri h_6, fe_rj h_6, fe_rq h_6]
        refine fg_if ?_ ?_
        · refine fg_bI g_X12_nameOf_d_f rfl (fun x_1573 I_z7 J_z7 ri_z7 rj_z7 rq_z7 h_7 => ?_)
          rw [fe_I h_7, fe_J h_7, fe_ri h_7, fe_rj h_7, fe_rq h_7]
          refine fg_if ?_ ?_
          · refine fg_ap (fun x_1588 => ?_)
            refine fg_ap (fun x_1590 => ?_)
            refine fg_ap (fun x_1592 => ?_)
            refine fg_ap (fun x_1595 => ?_)
            refine fg_bI g_X12_nameOf_d_f rfl (fun x_1598 I_z8 J_z8 ri_z8 rj_z8 rq_z8 h_8 => ?_)
            rw [fe_I h_8, fe_J h_8, fe_ri h_8, fe_rj h_8, fe_rq h_8]
            refine fg_ri rfl (fun r_1606 => ?_)
            refine fg_ap (fun x_1607 => ?_)
            refine fg_ap (fun x_1609 => ?_)
            refine fg_ap (fun x_1612 => ?_)
            refine fg_ri rfl (fun r_1614 => ?_)
            refine fg_bV g_X12_nextToken_x_f rfl (fun I_1619 J_1620 ri_z9 rj_z9 rq_z9 h_9 => ?_)
            rw [fe_ri h_9, fe_rj h_9, fe_rq h_9]
            refine fg_ap (fun y_1631 => ?_)
            refine fg_if ?_ ?_
            · refine fg_bV g_X12_nextToken_x_f rfl (fun I_1644 J_1645 ri_z10 rj_z10 rq_z10 h_10 => ?_)
              rw [fe_ri h_10, fe_rj h_10, fe_rq h_10]
              exact ih _ _ _ _
            · exact ih _ _ _ _
          · exact fv_rt rfl
        · refine fg_ap (fun x_1660 => ?_)
          refine fg_ap (fun x_1662 => ?_)
          refine fg_if ?_ ?_
          · exact fv_rt rfl
          · refine fg_bI g_X12_nameOf_d_f rfl (fun x_1672 I_z11 J_z11 ri_z11 rj_z11 rq_z11 h_11 => ?_)
            rw [fe_I h_11, fe_J h_11, fe_ri h_11, fe_rj h_11, fe_rq h_11]
            refine fg_if ?_ ?_
            · refine fg_ap (fun x_1687 => ?_)
              refine fg_ap (fun x_1689 => ?_)
              refine fg_ap (fun x_1691 => ?_)
              refine fg_ap (fun x_1695 => ?_)
              refine fg_bI g_X12_nameOf_d_f rfl (fun x_1698 I_z12 J_z12 ri_z12 rj_z12 rq_z12 h_12 => ?_)
              rw [fe_I h_12, fe_J h_12, fe_ri h_12, fe_rj h_12, fe_rq h_12]
              refine fg_ri rfl (fun r_1706 => ?_)
              refine fg_ap (fun x_1707 => ?_)
              refine fg_ap (fun x_1709 => ?_)
              refine fg_ap (fun x_1712 => ?_)
              refine fg_ri rfl (fun r_1714 => ?_)
              refine fg_bV g_X12_nextToken_x_f rfl (fun I_1719 J_1720 ri_z13 rj_z13 rq_z13 h_13 => ?_)
              rw [fe_ri h_13, fe_rj h_13, fe_rq h_13]
              refine fg_ap (fun y_1731 => ?_)
              refine fg_if ?_ ?_
              · refine fg_bV g_X12_nextToken_x_f rfl (fun I_1744 J_1745 ri_z14 rj_z14 rq_z14 h_14 => ?_)
                rw [fe_ri h_14, fe_rj h_14, fe_rq h_14]
                exact ih _ _ _ _
              · exact ih _ _ _ _
            · exact fv_rt rfl
theorem g_X12_keys_f {a0 : Int32} {I : Nat → Int32} {J : Nat → Int64} {ri : Nat → Nat → Int32} {rj : Nat → Nat → Int64} {rq : Nat → Nat → Option Nat}  : FRG Prod.snd w_X12_keys (I, J, ri, rj, rq) (g_X12_keys  a0 I J ri rj rq) := by
  rw [g_X12_keys_e]
  refine fg_ap (fun x_2 => ?_)
  refine fg_ri rfl (fun r_4 => ?_)
  refine fg_ap (fun y_1880 => ?_)
  refine fg_ap (fun y_1881 => ?_)
  exact g_X12_keys_L11_f  _ _ _ _ _

def w_X12_take : wS := ([391, 392, 393, 394], [395], [384], [], [])
theorem g_X12_take_f {a0 : Int32} {a1 : Int32} {I : Nat → Int32} {J : Nat → Int64} {ri : Nat → Nat → Int32} {rj : Nat → Nat → Int64} {rq : Nat → Nat → Option Nat}  : FRG Prod.snd w_X12_take (I, J, ri, rj, rq) (g_X12_take  a0 a1 I J ri rj rq) := by
  rw [g_X12_take_e]
  refine fg_ap (fun y_2 => ?_)
  refine fg_if ?_ ?_
  · refine fg_ap (fun y_9 => ?_)
    refine fg_if ?_ ?_
    · refine fg_ri rfl (fun r_16 => ?_)
      refine fg_bV g_X12_nextToken_x_f rfl (fun I_21 J_22 ri_z1 rj_z1 rq_z1 h_1 => ?_)
      rw [fe_ri h_1, fe_rj h_1, fe_rq h_1]
      exact fv_rt rfl
    · exact fv_rt rfl
  · exact fv_rt rfl

def w_X12_sortOf : wS := ([], [], [], [], [])
theorem g_X12_sortOf_f {I : Nat → Int32} {J : Nat → Int64} {ri : Nat → Nat → Int32} {rj : Nat → Nat → Int64} {rq : Nat → Nat → Option Nat}  : FRG Prod.snd w_X12_sortOf (I, J, ri, rj, rq) (g_X12_sortOf  I J ri rj rq) := by
  rw [g_X12_sortOf_e]
  refine fg_ap (fun y_1 => ?_)
  refine fg_if ?_ ?_
  · refine fg_ap (fun y_8 => ?_)
    refine fg_ap (fun x_9 => ?_)
    refine fg_ap (fun x_17 => ?_)
    refine fg_if ?_ ?_
    · exact fv_rt rfl
    · refine fg_ap (fun x_23 => ?_)
      refine fg_ap (fun x_30 => ?_)
      refine fg_if ?_ ?_
      · exact fv_rt rfl
      · refine fg_ap (fun x_36 => ?_)
        refine fg_ap (fun x_44 => ?_)
        refine fg_if ?_ ?_
        · exact fv_rt rfl
        · refine fg_ap (fun x_50 => ?_)
          refine fg_ap (fun x_58 => ?_)
          refine fg_if ?_ ?_
          · exact fv_rt rfl
          · refine fg_ap (fun x_64 => ?_)
            refine fg_ap (fun x_72 => ?_)
            refine fg_if ?_ ?_
            · exact fv_rt rfl
            · refine fg_ap (fun x_78 => ?_)
              refine fg_ap (fun x_86 => ?_)
              refine fg_if ?_ ?_
              · exact fv_rt rfl
              · refine fg_ap (fun x_92 => ?_)
                refine fg_ap (fun x_99 => ?_)
                refine fg_ap (fun x_100 => ?_)
                refine fg_ap (fun x_101 => ?_)
                refine fg_if ?_ ?_
                · exact fv_rt rfl
                · refine fg_ap (fun x_107 => ?_)
                  refine fg_ap (fun x_115 => ?_)
                  refine fg_if ?_ ?_
                  · exact fv_rt rfl
                  · refine fg_ap (fun x_121 => ?_)
                    refine fg_ap (fun x_129 => ?_)
                    refine fg_if ?_ ?_
                    · exact fv_rt rfl
                    · exact fv_rt rfl
  · exact fv_rt rfl

def w_X12_clause : wS := ([391, 392, 393, 394, 397, 398, 399, 401, 402, 403], [395], [384, 400], [], [])
theorem g_X12_clause_f {I : Nat → Int32} {J : Nat → Int64} {ri : Nat → Nat → Int32} {rj : Nat → Nat → Int64} {rq : Nat → Nat → Option Nat}  : FRG Prod.snd w_X12_clause (I, J, ri, rj, rq) (g_X12_clause  I J ri rj rq) := by
  rw [g_X12_clause_e]
  refine fg_bI g_X12_sortOf_f rfl (fun x_1 I_z1 J_z1 ri_z1 rj_z1 rq_z1 h_1 => ?_)
  rw [fe_I h_1, fe_J h_1, fe_ri h_1, fe_rj h_1, fe_rq h_1]
  refine fg_if ?_ ?_
  · exact fv_rt rfl
  · refine fg_if ?_ ?_
    · refine fg_ap (fun y_24 => ?_)
      refine fg_if ?_ ?_
      · exact fv_rt rfl
      · refine fg_ap (fun y_32 => ?_)
        refine fg_ap (fun x_33 => ?_)
        refine fg_ap (fun x_34 => ?_)
        refine fg_I rfl (fun I_35 => ?_)
        refine fg_ap (fun y_45 => ?_)
        refine fg_ap (fun x_46 => ?_)
        refine fg_ap (fun y_49 => ?_)
        refine fg_ap (fun x_50 => ?_)
        refine fg_ap (fun x_52 => ?_)
        refine fg_ri rfl (fun r_55 => ?_)
        refine fg_bV g_X12_nextToken_x_f rfl (fun I_59 J_60 ri_z2 rj_z2 rq_z2 h_2 => ?_)
        rw [fe_ri h_2, fe_rj h_2, fe_rq h_2]
        refine fg_ap (fun x_80 => ?_)
        refine fg_ap (fun y_83 => ?_)
        refine fg_ri rfl (fun r_84 => ?_)
        refine fg_bI g_X12_either_f rfl (fun x_85 I_87 J_88 ri_89 rj_z3 rq_z3 h_3 => ?_)
        rw [fe_rj h_3, fe_rq h_3]
        refine fg_ap (fun x_98 => ?_)
        refine fg_ap (fun y_101 => ?_)
        refine fg_ri rfl (fun r_102 => ?_)
        refine fg_if ?_ ?_
        · refine fg_ap (fun y_110 => ?_)
          refine fg_if ?_ ?_
          · refine fg_ap (fun y_118 => ?_)
            refine fg_ap (fun x_119 => ?_)
            refine fg_I rfl (fun I_121 => ?_)
            refine fg_bV g_X12_nextToken_x_f rfl (fun I_133 J_134 ri_z4 rj_z4 rq_z4 h_4 => ?_)
            rw [fe_ri h_4, fe_rj h_4, fe_rq h_4]
            exact fv_rt rfl
          · exact fv_rt rfl
        · exact fv_rt rfl
    · refine fg_ap (fun y_156 => ?_)
      refine fg_ap (fun x_157 => ?_)
      refine fg_ap (fun x_158 => ?_)
      refine fg_if ?_ ?_
      · exact fv_rt rfl
      · refine fg_ap (fun y_165 => ?_)
        refine fg_if ?_ ?_
        · exact fv_rt rfl
        · refine fg_ap (fun x_173 => ?_)
          refine fg_ap (fun x_174 => ?_)
          refine fg_I rfl (fun I_175 => ?_)
          refine fg_ap (fun y_185 => ?_)
          refine fg_ap (fun x_186 => ?_)
          refine fg_ap (fun y_189 => ?_)
          refine fg_ap (fun x_190 => ?_)
          refine fg_ap (fun x_192 => ?_)
          refine fg_ri rfl (fun r_195 => ?_)
          refine fg_bV g_X12_nextToken_x_f rfl (fun I_199 J_200 ri_z5 rj_z5 rq_z5 h_5 => ?_)
          rw [fe_ri h_5, fe_rj h_5, fe_rq h_5]
          refine fg_if ?_ ?_
          · refine fg_if ?_ ?_
            · refine fg_ap (fun x_384 => ?_)
              refine fg_bI g_X12_take_f rfl (fun x_386 I_388 J_389 ri_390 rj_z6 rq_z6 h_6 => ?_)
              rw [fe_rj h_6, fe_rq h_6]
              refine fg_if ?_ ?_
              · refine fg_ap (fun y_412 => ?_)
                refine fg_if ?_ ?_
                · refine fg_ap (fun y_420 => ?_)
                  refine fg_ap (fun x_421 => ?_)
                  refine fg_I rfl (fun I_423 => ?_)
                  refine fg_bV g_X12_nextToken_x_f rfl (fun I_435 J_436 ri_z7 rj_z7 rq_z7 h_7 => ?_)
                  rw [fe_ri h_7, fe_rj h_7, fe_rq h_7]
                  exact fv_rt rfl
                · exact fv_rt rfl
              · exact fv_rt rfl
            · refine fg_if ?_ ?_
              · refine fg_ap (fun x_312 => ?_)
                refine fg_bI g_X12_take_f rfl (fun x_314 I_316 J_317 ri_318 rj_z8 rq_z8 h_8 => ?_)
                rw [fe_rj h_8, fe_rq h_8]
                refine fg_if ?_ ?_
                · refine fg_ap (fun y_340 => ?_)
                  refine fg_if ?_ ?_
                  · refine fg_ap (fun y_348 => ?_)
                    refine fg_ap (fun x_349 => ?_)
                    refine fg_I rfl (fun I_351 => ?_)
                    refine fg_bV g_X12_nextToken_x_f rfl (fun I_363 J_364 ri_z9 rj_z9 rq_z9 h_9 => ?_)
                    rw [fe_ri h_9, fe_rj h_9, fe_rq h_9]
                    exact fv_rt rfl
                  · exact fv_rt rfl
                · exact fv_rt rfl
              · refine fg_ap (fun x_240 => ?_)
                refine fg_bI g_X12_take_f rfl (fun x_242 I_244 J_245 ri_246 rj_z10 rq_z10 h_10 => ?_)
                rw [fe_rj h_10, fe_rq h_10]
                refine fg_if ?_ ?_
                · refine fg_ap (fun y_268 => ?_)
                  refine fg_if ?_ ?_
                  · refine fg_ap (fun y_276 => ?_)
                    refine fg_ap (fun x_277 => ?_)
                    refine fg_I rfl (fun I_279 => ?_)
                    refine fg_bV g_X12_nextToken_x_f rfl (fun I_291 J_292 ri_z11 rj_z11 rq_z11 h_11 => ?_)
                    rw [fe_ri h_11, fe_rj h_11, fe_rq h_11]
                    exact fv_rt rfl
                  · exact fv_rt rfl
                · exact fv_rt rfl
          · refine fg_bI g_X12_keys_f rfl (fun x_456 I_458 J_459 ri_460 rj_z12 rq_z12 h_12 => ?_)
            rw [fe_rj h_12, fe_rq h_12]
            refine fg_if ?_ ?_
            · refine fg_ap (fun y_482 => ?_)
              refine fg_if ?_ ?_
              · refine fg_ap (fun y_490 => ?_)
                refine fg_ap (fun x_491 => ?_)
                refine fg_I rfl (fun I_493 => ?_)
                refine fg_bV g_X12_nextToken_x_f rfl (fun I_505 J_506 ri_z13 rj_z13 rq_z13 h_13 => ?_)
                rw [fe_ri h_13, fe_rj h_13, fe_rq h_13]
                exact fv_rt rfl
              · exact fv_rt rfl
            · exact fv_rt rfl

def w_X12_readText : wS := ([391, 392, 393, 394, 396, 397, 398, 399, 401, 402, 403], [395], [384, 400], [], [])
theorem g_X12_readText_L48_f {rj : Nat → Nat → Int64} {rq : Nat → Nat → Option Nat}  : ∀ (n_184 : Nat) (I_157 : Nat → Int32) (J_158 : Nat → Int64) (ri_159 : Nat → Nat → Int32), FRG Prod.snd w_X12_readText (I_157, J_158, ri_159, rj, rq) (g_X12_readText_L48 rj rq n_184 I_157 J_158 ri_159) := by
  intro n_184
  induction n_184 with
  | zero => intros; exact fv_rt rfl
  | succ n_184 ih =>
    intro I_157 J_158 ri_159
    rw [g_X12_readText_L48_e]
    refine fg_ap (fun y_189 => ?_)
    refine fg_if ?_ ?_
    · exact fv_rt rfl
    · refine fg_bI g_X12_clause_f rfl (fun x_197 I_199 J_200 ri_201 rj_z1 rq_z1 h_1 => ?_)
      rw [fe_rj h_1, fe_rq h_1]
      refine fg_if ?_ ?_
      · exact ih _ _ _
      · exact fv_rt rfl
theorem g_X12_readText_f {I : Nat → Int32} {J : Nat → Int64} {ri : Nat → Nat → Int32} {rj : Nat → Nat → Int64} {rq : Nat → Nat → Option Nat}  : FRG Prod.snd w_X12_readText (I, J, ri, rj, rq) (g_X12_readText  I J ri rj rq) := by
  rw [g_X12_readText_e]
  refine fg_ap (fun y_1 => ?_)
  refine fg_ap (fun x_2 => ?_)
  refine fg_ap (fun x_4 => ?_)
  refine fg_I rfl (fun I_6 => ?_)
  refine fg_I rfl (fun I_15 => ?_)
  refine fg_I rfl (fun I_24 => ?_)
  refine fg_I rfl (fun I_33 => ?_)
  refine fg_I rfl (fun I_42 => ?_)
  refine fg_I rfl (fun I_51 => ?_)
  refine fg_bV g_X12_nextToken_x_f rfl (fun I_63 J_64 ri_z2 rj_z2 rq_z2 h_2 => ?_)
  rw [fe_ri h_2, fe_rj h_2, fe_rq h_2]
  refine fg_ap (fun y_218 => ?_)
  refine fg_ap (fun y_219 => ?_)
  exact g_X12_readText_L48_f  _ _ _ _

def w_X12_text : wS := ([388, 389, 390, 391, 392, 393, 394, 396, 397, 398, 399, 401, 402, 403], [395], [384, 400], [], [])
theorem g_X12_text_f {I : Nat → Int32} {J : Nat → Int64} {ri : Nat → Nat → Int32} {rj : Nat → Nat → Int64} {rq : Nat → Nat → Option Nat}  : FRG Prod.snd w_X12_text (I, J, ri, rj, rq) (g_X12_text  I J ri rj rq) := by
  rw [g_X12_text_e]
  refine fg_ap (fun x_1 => ?_)
  refine fg_if ?_ ?_
  · exact fv_rt rfl
  · refine fg_bI g_X12_readText_f rfl (fun x_11 I_13 J_14 ri_15 rj_z1 rq_z1 h_1 => ?_)
    rw [fe_rj h_1, fe_rq h_1]
    refine fg_I rfl (fun I_23 => ?_)
    refine fg_ap (fun y_29 => ?_)
    refine fg_if ?_ ?_
    · refine fg_I rfl (fun I_58 => ?_)
      refine fg_I rfl (fun I_63 => ?_)
      refine fg_ap (fun y_69 => ?_)
      refine fg_ap (fun y_75 => ?_)
      refine fg_ap (fun y_77 => ?_)
      refine fg_ri rfl (fun r_79 => ?_)
      refine fg_ap (fun x_81 => ?_)
      refine fg_ri rfl (fun r_83 => ?_)
      refine fg_ap (fun x_85 => ?_)
      exact fv_rt rfl
    · refine fg_ap (fun y_38 => ?_)
      refine fg_I rfl (fun I_39 => ?_)
      refine fg_I rfl (fun I_44 => ?_)
      refine fg_ap (fun y_50 => ?_)
      exact fv_rt rfl
