

def w_X12_isRing : wS := ([], [], [], [], [])
theorem g_X12_isRing_f {a0 : Int32} {I : Nat → Int32} {J : Nat → Int64} {ri : Nat → Nat → Int32} {rj : Nat → Nat → Int64} {rq : Nat → Nat → Option Nat}  : FRG Prod.snd w_X12_isRing (I, J, ri, rj, rq) (g_X12_isRing  a0 I J ri rj rq) := by
  rw [g_X12_isRing_e]
  refine fg_ap (fun y_3 => ?_)
  refine fg_ap (fun x_4 => ?_)
  refine fg_ap (fun x_6 => ?_)
  exact fv_rt rfl

def w_X12_latest : wS := ([], [], [], [], [])
theorem g_X12_latest_K65_f {x_97 : Int32} {k_g_X12_latest_L10 : (Int32) → Int32 × vM} {I : Nat → Int32} {J : Nat → Int64} {ri : Nat → Nat → Int32} {rj : Nat → Nat → Int64} {rq : Nat → Nat → Option Nat} (hk_g_X12_latest_L10 : ∀ (x_97 : Int32), FRG Prod.snd w_X12_latest (I, J, ri, rj, rq) (k_g_X12_latest_L10 x_97)) : FRG Prod.snd w_X12_latest (I, J, ri, rj, rq) (g_X12_latest_K65 x_97 k_g_X12_latest_L10 ) := by
  rw [g_X12_latest_K65_e]
  refine fg_ap (fun x_168 => ?_)
  exact hk_g_X12_latest_L10 _
theorem g_X12_latest_L10_f {a0 : Int32} {a1 : Int32} {a2 : Int32} {I : Nat → Int32} {J : Nat → Int64} {ri : Nat → Nat → Int32} {rj : Nat → Nat → Int64} {rq : Nat → Nat → Option Nat}  : ∀ (n_129 : Nat) (x_97 : Int32), FRG Prod.snd w_X12_latest (I, J, ri, rj, rq) (g_X12_latest_L10 a0 a1 a2 I J ri rj rq n_129 x_97) := by
  intro n_129
  induction n_129 with
  | zero => intros; exact fv_rt rfl
  | succ n_129 ih =>
    intro x_97
    rw [g_X12_latest_L10_e]
    refine fg_if ?_ ?_
    · exact fv_rt rfl
    · refine fg_ap (fun x_143 => ?_)
      refine fg_ap (fun x_145 => ?_)
      refine fg_ap (fun x_147 => ?_)
      refine fg_if ?_ ?_
      · refine fg_ap (fun x_175 => ?_)
        refine fg_ap (fun x_177 => ?_)
        refine fg_if ?_ ?_
        · refine fg_ap (fun x_183 => ?_)
          refine fg_ap (fun x_185 => ?_)
          refine fg_if ?_ ?_
          · exact g_X12_latest_K65_f ih
          · exact fv_rt rfl
        · exact g_X12_latest_K65_f ih
      · exact g_X12_latest_K65_f ih
theorem g_X12_latest_f {a0 : Int32} {a1 : Int32} {a2 : Int32} {I : Nat → Int32} {J : Nat → Int64} {ri : Nat → Nat → Int32} {rj : Nat → Nat → Int64} {rq : Nat → Nat → Option Nat}  : FRG Prod.snd w_X12_latest (I, J, ri, rj, rq) (g_X12_latest  a0 a1 a2 I J ri rj rq) := by
  rw [g_X12_latest_e]
  refine fg_ap (fun y_3 => ?_)
  refine fg_ap (fun x_4 => ?_)
  exact g_X12_latest_L10_f  _ _

def w_X12_worst : wS := ([], [], [], [], [])
theorem g_X12_worst_K99_f {x_936 : Int32} {k_g_X12_worst_L8 : (Int32) → (Int32) → (Int32) → Int32 × vM} {I : Nat → Int32} {J : Nat → Int64} {ri : Nat → Nat → Int32} {rj : Nat → Nat → Int64} {rq : Nat → Nat → Option Nat} {x_1050 : Int32} {x_1051 : Int32} (hk_g_X12_worst_L8 : ∀ (x_934 : Int32) (x_935 : Int32) (x_936 : Int32), FRG Prod.snd w_X12_worst (I, J, ri, rj, rq) (k_g_X12_worst_L8 x_934 x_935 x_936)) : FRG Prod.snd w_X12_worst (I, J, ri, rj, rq) (g_X12_worst_K99 x_936 k_g_X12_worst_L8 x_1050 x_1051) := by
  rw [g_X12_worst_K99_e]
  refine fg_ap (fun x_1058 => ?_)
  exact hk_g_X12_worst_L8 _ _ _
theorem g_X12_worst_K86_f {ri : Nat → Nat → Int32} {x_936 : Int32} {x_1013 : Int32} {k_g_X12_worst_L8 : (Int32) → (Int32) → (Int32) → Int32 × vM} {I : Nat → Int32} {J : Nat → Int64} {rj : Nat → Nat → Int64} {rq : Nat → Nat → Option Nat} (hk_g_X12_worst_L8 : ∀ (x_934 : Int32) (x_935 : Int32) (x_936 : Int32), FRG Prod.snd w_X12_worst (I, J, ri, rj, rq) (k_g_X12_worst_L8 x_934 x_935 x_936)) : FRG Prod.snd w_X12_worst (I, J, ri, rj, rq) (g_X12_worst_K86 ri x_936 x_1013 k_g_X12_worst_L8 ) := by
  rw [g_X12_worst_K86_e]
  refine fg_ap (fun x_1104 => ?_)
  refine fg_ap (fun x_1106 => ?_)
  exact g_X12_worst_K99_f hk_g_X12_worst_L8
theorem g_X12_worst_L8_f {a0 : Int32} {a1 : Int32} {I : Nat → Int32} {J : Nat → Int64} {ri : Nat → Nat → Int32} {rj : Nat → Nat → Int64} {rq : Nat → Nat → Option Nat}  : ∀ (n_992 : Nat) (x_934 : Int32) (x_935 : Int32) (x_936 : Int32), FRG Prod.snd w_X12_worst (I, J, ri, rj, rq) (g_X12_worst_L8 a0 a1 I J ri rj rq n_992 x_934 x_935 x_936) := by
  intro n_992
  induction n_992 with
  | zero => intros; exact fv_rt rfl
  | succ n_992 ih =>
    intro x_934 x_935 x_936
    rw [g_X12_worst_L8_e]
    refine fg_ap (fun y_1001 => ?_)
    refine fg_if ?_ ?_
    · exact fv_rt rfl
    · refine fg_ap (fun x_1011 => ?_)
      refine fg_ap (fun x_1013 => ?_)
      refine fg_ap (fun x_1015 => ?_)
      refine fg_if ?_ ?_
      · refine fg_ap (fun x_1065 => ?_)
        refine fg_ap (fun x_1067 => ?_)
        refine fg_if ?_ ?_
        · exact g_X12_worst_K99_f ih
        · refine fg_ap (fun x_1075 => ?_)
          refine fg_ap (fun x_1077 => ?_)
          refine fg_if ?_ ?_
          · exact g_X12_worst_K99_f ih
          · refine fg_if ?_ ?_
            · exact g_X12_worst_K86_f ih
            · refine fg_ap (fun x_1116 => ?_)
              refine fg_ap (fun x_1118 => ?_)
              refine fg_if ?_ ?_
              · exact g_X12_worst_K86_f ih
              · exact g_X12_worst_K99_f ih
      · exact g_X12_worst_K99_f ih
theorem g_X12_worst_f {a0 : Int32} {a1 : Int32} {I : Nat → Int32} {J : Nat → Int64} {ri : Nat → Nat → Int32} {rj : Nat → Nat → Int64} {rq : Nat → Nat → Option Nat}  : FRG Prod.snd w_X12_worst (I, J, ri, rj, rq) (g_X12_worst  a0 a1 I J ri rj rq) := by
  rw [g_X12_worst_e]
  exact g_X12_worst_L8_f  _ _ _ _

def w_X12_levelAt : wS := ([], [], [], [], [])
theorem g_X12_levelAt_K114_f {I : Nat → Int32} {J : Nat → Int64} {ri : Nat → Nat → Int32} {rj : Nat → Nat → Int64} {rq : Nat → Nat → Option Nat} {x_25 : Int32} {x_33 : Int32}  : FRG Prod.snd w_X12_levelAt (I, J, ri, rj, rq) (g_X12_levelAt_K114 I J ri rj rq x_25 x_33 ) := by
  rw [g_X12_levelAt_K114_e]
  refine fg_ap (fun x_158 => ?_)
  refine fg_ap (fun x_160 => ?_)
  refine fg_ap (fun x_161 => ?_)
  refine fg_ap (fun x_163 => ?_)
  refine fg_ap (fun x_164 => ?_)
  refine fg_ap (fun x_165 => ?_)
  exact fv_rt rfl
theorem g_X12_levelAt_K148_f {I : Nat → Int32} {J : Nat → Int64} {ri : Nat → Nat → Int32} {rj : Nat → Nat → Int64} {rq : Nat → Nat → Option Nat} {x_25 : Int32}  : FRG Prod.snd w_X12_levelAt (I, J, ri, rj, rq) (g_X12_levelAt_K148 I J ri rj rq x_25 ) := by
  rw [g_X12_levelAt_K148_e]
  refine fg_ap (fun x_175 => ?_)
  refine fg_ap (fun x_177 => ?_)
  exact fv_rt rfl
theorem g_X12_levelAt_K114_2_f {I : Nat → Int32} {J : Nat → Int64} {ri : Nat → Nat → Int32} {rj : Nat → Nat → Int64} {rq : Nat → Nat → Option Nat} {x_25 : Int32}  : FRG Prod.snd w_X12_levelAt (I, J, ri, rj, rq) (g_X12_levelAt_K114_2 I J ri rj rq x_25 ) := by
  rw [g_X12_levelAt_K114_2_e]
  exact g_X12_levelAt_K148_f 
theorem g_X12_levelAt_K113_f {I : Nat → Int32} {J : Nat → Int64} {ri : Nat → Nat → Int32} {rj : Nat → Nat → Int64} {rq : Nat → Nat → Option Nat} {x_25 : Int32}  : FRG Prod.snd w_X12_levelAt (I, J, ri, rj, rq) (g_X12_levelAt_K113 I J ri rj rq x_25 ) := by
  rw [g_X12_levelAt_K113_e]
  exact g_X12_levelAt_K114_2_f 
theorem g_X12_levelAt_K89_f {I : Nat → Int32} {J : Nat → Int64} {ri : Nat → Nat → Int32} {rj : Nat → Nat → Int64} {rq : Nat → Nat → Option Nat} {x_25 : Int32} {x_33 : Int32}  : FRG Prod.snd w_X12_levelAt (I, J, ri, rj, rq) (g_X12_levelAt_K89 I J ri rj rq x_25 x_33 ) := by
  rw [g_X12_levelAt_K89_e]
  refine fg_if ?_ ?_
  · exact g_X12_levelAt_K113_f 
  · refine fg_ap (fun x_190 => ?_)
    refine fg_ap (fun x_192 => ?_)
    refine fg_if ?_ ?_
    · exact g_X12_levelAt_K114_f 
    · exact g_X12_levelAt_K113_f 
theorem g_X12_levelAt_K148_2_f {I : Nat → Int32} {J : Nat → Int64} {ri : Nat → Nat → Int32} {rj : Nat → Nat → Int64} {rq : Nat → Nat → Option Nat} {x_33 : Int32}  : FRG Prod.snd w_X12_levelAt (I, J, ri, rj, rq) (g_X12_levelAt_K148_2 I J ri rj rq x_33 ) := by
  rw [g_X12_levelAt_K148_2_e]
  refine fg_ap (fun x_242 => ?_)
  refine fg_ap (fun x_244 => ?_)
  exact fv_rt rfl
theorem g_X12_levelAt_K114_3_f {I : Nat → Int32} {J : Nat → Int64} {ri : Nat → Nat → Int32} {rj : Nat → Nat → Int64} {rq : Nat → Nat → Option Nat} {x_33 : Int32}  : FRG Prod.snd w_X12_levelAt (I, J, ri, rj, rq) (g_X12_levelAt_K114_3 I J ri rj rq x_33 ) := by
  rw [g_X12_levelAt_K114_3_e]
  exact g_X12_levelAt_K148_2_f 
theorem g_X12_levelAt_K148_3_f {a0 : Int32} {a2 : Int32} {I : Nat → Int32} {J : Nat → Int64} {ri : Nat → Nat → Int32} {rj : Nat → Nat → Int64} {rq : Nat → Nat → Option Nat}  : FRG Prod.snd w_X12_levelAt (I, J, ri, rj, rq) (g_X12_levelAt_K148_3 a0 a2 I J ri rj rq ) := by
  rw [g_X12_levelAt_K148_3_e]
  refine fg_bI g_X12_worst_f rfl (fun x_260 I_z1 J_z1 ri_z1 rj_z1 rq_z1 h_1 => ?_)
  rw [fe_I h_1, fe_J h_1, fe_ri h_1, fe_rj h_1, fe_rq h_1]
  exact fv_rt rfl
theorem g_X12_levelAt_K114_4_f {a0 : Int32} {a2 : Int32} {I : Nat → Int32} {J : Nat → Int64} {ri : Nat → Nat → Int32} {rj : Nat → Nat → Int64} {rq : Nat → Nat → Option Nat}  : FRG Prod.snd w_X12_levelAt (I, J, ri, rj, rq) (g_X12_levelAt_K114_4 a0 a2 I J ri rj rq ) := by
  rw [g_X12_levelAt_K114_4_e]
  exact g_X12_levelAt_K148_3_f 
theorem g_X12_levelAt_K113_2_f {a0 : Int32} {a2 : Int32} {I : Nat → Int32} {J : Nat → Int64} {ri : Nat → Nat → Int32} {rj : Nat → Nat → Int64} {rq : Nat → Nat → Option Nat}  : FRG Prod.snd w_X12_levelAt (I, J, ri, rj, rq) (g_X12_levelAt_K113_2 a0 a2 I J ri rj rq ) := by
  rw [g_X12_levelAt_K113_2_e]
  exact g_X12_levelAt_K114_4_f 
theorem g_X12_levelAt_K89_2_f {a0 : Int32} {a2 : Int32} {I : Nat → Int32} {J : Nat → Int64} {ri : Nat → Nat → Int32} {rj : Nat → Nat → Int64} {rq : Nat → Nat → Option Nat} {x_33 : Int32}  : FRG Prod.snd w_X12_levelAt (I, J, ri, rj, rq) (g_X12_levelAt_K89_2 a0 a2 I J ri rj rq x_33 ) := by
  rw [g_X12_levelAt_K89_2_e]
  refine fg_if ?_ ?_
  · exact g_X12_levelAt_K113_2_f 
  · refine fg_ap (fun x_278 => ?_)
    refine fg_ap (fun x_280 => ?_)
    refine fg_if ?_ ?_
    · exact g_X12_levelAt_K114_3_f 
    · exact g_X12_levelAt_K113_2_f 
theorem g_X12_levelAt_K88_f {a0 : Int32} {a2 : Int32} {I : Nat → Int32} {J : Nat → Int64} {ri : Nat → Nat → Int32} {rj : Nat → Nat → Int64} {rq : Nat → Nat → Option Nat} {x_33 : Int32}  : FRG Prod.snd w_X12_levelAt (I, J, ri, rj, rq) (g_X12_levelAt_K88 a0 a2 I J ri rj rq x_33 ) := by
  rw [g_X12_levelAt_K88_e]
  exact g_X12_levelAt_K89_2_f 
theorem g_X12_levelAt_f {a0 : Int32} {a1 : Int32} {a2 : Int32} {I : Nat → Int32} {J : Nat → Int64} {ri : Nat → Nat → Int32} {rj : Nat → Nat → Int64} {rq : Nat → Nat → Option Nat}  : FRG Prod.snd w_X12_levelAt (I, J, ri, rj, rq) (g_X12_levelAt  a0 a1 a2 I J ri rj rq) := by
  rw [g_X12_levelAt_e]
  refine fg_bI g_X12_latest_f rfl (fun x_1 I_z2 J_z2 ri_z2 rj_z2 rq_z2 h_2 => ?_)
  rw [fe_I h_2, fe_J h_2, fe_ri h_2, fe_rj h_2, fe_rq h_2]
  refine fg_if ?_ ?_
  · refine fg_ap (fun x_16 => ?_)
    refine fg_ap (fun x_18 => ?_)
    refine fg_if ?_ ?_
    · refine fg_ap (fun x_310 => ?_)
      refine fg_ap (fun x_312 => ?_)
      exact fv_rt rfl
    · refine fg_ap (fun x_24 => ?_)
      refine fg_bI g_X12_latest_f rfl (fun x_25 I_z3 J_z3 ri_z3 rj_z3 rq_z3 h_3 => ?_)
      rw [fe_I h_3, fe_J h_3, fe_ri h_3, fe_rj h_3, fe_rq h_3]
      refine fg_ap (fun x_32 => ?_)
      refine fg_bI g_X12_latest_f rfl (fun x_33 I_z4 J_z4 ri_z4 rj_z4 rq_z4 h_4 => ?_)
      rw [fe_I h_4, fe_J h_4, fe_ri h_4, fe_rj h_4, fe_rq h_4]
      refine fg_if ?_ ?_
      · exact g_X12_levelAt_K88_f 
      · refine fg_ap (fun x_298 => ?_)
        refine fg_ap (fun x_300 => ?_)
        refine fg_if ?_ ?_
        · exact g_X12_levelAt_K89_f 
        · exact g_X12_levelAt_K88_f 
  · refine fg_bI g_X12_worst_f rfl (fun x_315 I_z5 J_z5 ri_z5 rj_z5 rq_z5 h_5 => ?_)
    rw [fe_I h_5, fe_J h_5, fe_ri h_5, fe_rj h_5, fe_rq h_5]
    exact fv_rt rfl

def w_X12_cellAt_c8 : wS := ([], [], [], [], [])
theorem g_X12_cellAt_c8_f {a0 : Int32} {I : Nat → Int32} {J : Nat → Int64} {ri : Nat → Nat → Int32} {rj : Nat → Nat → Int64} {rq : Nat → Nat → Option Nat}  : FRG Prod.snd w_X12_cellAt_c8 (I, J, ri, rj, rq) (g_X12_cellAt_c8  a0 I J ri rj rq) := by
  rw [g_X12_cellAt_c8_e]
  refine fg_ap (fun x_2 => ?_)
  refine fg_ap (fun x_4 => ?_)
  refine fg_ap (fun x_6 => ?_)
  refine fg_ap (fun x_8 => ?_)
  exact fv_rt rfl

def w_X12_cellAt_c7 : wS := ([], [], [], [], [])
theorem g_X12_cellAt_c7_f {a0 : Int32} {I : Nat → Int32} {J : Nat → Int64} {ri : Nat → Nat → Int32} {rj : Nat → Nat → Int64} {rq : Nat → Nat → Option Nat}  : FRG Prod.snd w_X12_cellAt_c7 (I, J, ri, rj, rq) (g_X12_cellAt_c7  a0 I J ri rj rq) := by
  rw [g_X12_cellAt_c7_e]
  refine fg_ap (fun x_2 => ?_)
  refine fg_ap (fun x_4 => ?_)
  refine fg_ap (fun x_6 => ?_)
  refine fg_ap (fun x_8 => ?_)
  exact fv_rt rfl

def w_X12_personAt_c3 : wS := ([], [], [], [], [])
theorem g_X12_personAt_c3_f {a0 : Int32} {I : Nat → Int32} {J : Nat → Int64} {ri : Nat → Nat → Int32} {rj : Nat → Nat → Int64} {rq : Nat → Nat → Option Nat}  : FRG Prod.snd w_X12_personAt_c3 (I, J, ri, rj, rq) (g_X12_personAt_c3  a0 I J ri rj rq) := by
  rw [g_X12_personAt_c3_e]
  refine fg_ap (fun x_1 => ?_)
  refine fg_ap (fun x_3 => ?_)
  refine fg_ap (fun x_5 => ?_)
  refine fg_ap (fun x_7 => ?_)
  exact fv_rt rfl

def w_X12_manyAt : wS := ([], [], [], [], [])
theorem g_X12_manyAt_K30_f {x_828 : Int32} {x_829 : Int32} {k_g_X12_manyAt_L4 : (Int32) → (Int32) → Int32 × vM} {I : Nat → Int32} {J : Nat → Int64} {ri : Nat → Nat → Int32} {rj : Nat → Nat → Int64} {rq : Nat → Nat → Option Nat} (hk_g_X12_manyAt_L4 : ∀ (x_828 : Int32) (x_829 : Int32), FRG Prod.snd w_X12_manyAt (I, J, ri, rj, rq) (k_g_X12_manyAt_L4 x_828 x_829)) : FRG Prod.snd w_X12_manyAt (I, J, ri, rj, rq) (g_X12_manyAt_K30 x_828 x_829 k_g_X12_manyAt_L4 ) := by
  rw [g_X12_manyAt_K30_e]
  refine fg_ap (fun x_902 => ?_)
  refine fg_ap (fun x_904 => ?_)
  exact hk_g_X12_manyAt_L4 _ _
theorem g_X12_manyAt_K30_2_f {x_828 : Int32} {x_829 : Int32} {k_g_X12_manyAt_L4 : (Int32) → (Int32) → Int32 × vM} {I : Nat → Int32} {J : Nat → Int64} {ri : Nat → Nat → Int32} {rj : Nat → Nat → Int64} {rq : Nat → Nat → Option Nat} (hk_g_X12_manyAt_L4 : ∀ (x_828 : Int32) (x_829 : Int32), FRG Prod.snd w_X12_manyAt (I, J, ri, rj, rq) (k_g_X12_manyAt_L4 x_828 x_829)) : FRG Prod.snd w_X12_manyAt (I, J, ri, rj, rq) (g_X12_manyAt_K30_2 x_828 x_829 k_g_X12_manyAt_L4 ) := by
  rw [g_X12_manyAt_K30_2_e]
  refine fg_ap (fun x_909 => ?_)
  refine fg_ap (fun x_910 => ?_)
  exact hk_g_X12_manyAt_L4 _ _
theorem g_X12_manyAt_L4_f {a0 : Int32} {I : Nat → Int32} {J : Nat → Int64} {ri : Nat → Nat → Int32} {rj : Nat → Nat → Int64} {rq : Nat → Nat → Option Nat}  : ∀ (n_862 : Nat) (x_828 : Int32) (x_829 : Int32), FRG Prod.snd w_X12_manyAt (I, J, ri, rj, rq) (g_X12_manyAt_L4 a0 I J ri rj rq n_862 x_828 x_829) := by
  intro n_862
  induction n_862 with
  | zero => intros; exact fv_rt rfl
  | succ n_862 ih =>
    intro x_828 x_829
    rw [g_X12_manyAt_L4_e]
    refine fg_ap (fun y_869 => ?_)
    refine fg_if ?_ ?_
    · exact fv_rt rfl
    · refine fg_bI g_X12_personAt_c3_f rfl (fun x_879 I_z1 J_z1 ri_z1 rj_z1 rq_z1 h_1 => ?_)
      rw [fe_I h_1, fe_J h_1, fe_ri h_1, fe_rj h_1, fe_rq h_1]
      refine fg_if ?_ ?_
      · exact g_X12_manyAt_K30_2_f ih
      · exact g_X12_manyAt_K30_f ih
theorem g_X12_manyAt_f {a0 : Int32} {I : Nat → Int32} {J : Nat → Int64} {ri : Nat → Nat → Int32} {rj : Nat → Nat → Int64} {rq : Nat → Nat → Option Nat}  : FRG Prod.snd w_X12_manyAt (I, J, ri, rj, rq) (g_X12_manyAt  a0 I J ri rj rq) := by
  rw [g_X12_manyAt_e]
  exact g_X12_manyAt_L4_f  _ _ _

def w_X12_isLot : wS := ([], [], [], [], [])
theorem g_X12_isLot_f {a0 : Int32} {I : Nat → Int32} {J : Nat → Int64} {ri : Nat → Nat → Int32} {rj : Nat → Nat → Int64} {rq : Nat → Nat → Option Nat}  : FRG Prod.snd w_X12_isLot (I, J, ri, rj, rq) (g_X12_isLot  a0 I J ri rj rq) := by
  rw [g_X12_isLot_e]
  refine fg_ap (fun y_3 => ?_)
  refine fg_ap (fun x_4 => ?_)
  refine fg_ap (fun x_6 => ?_)
  refine fg_ap (fun x_8 => ?_)
  exact fv_rt rfl

def w_X12_freeIn : wS := ([], [], [], [], [])
theorem g_X12_freeIn_f {a0 : Int32} {I : Nat → Int32} {J : Nat → Int64} {ri : Nat → Nat → Int32} {rj : Nat → Nat → Int64} {rq : Nat → Nat → Option Nat}  : FRG Prod.snd w_X12_freeIn (I, J, ri, rj, rq) (g_X12_freeIn  a0 I J ri rj rq) := by
  rw [g_X12_freeIn_e]
  refine fg_ap (fun x_2 => ?_)
  refine fg_ap (fun x_4 => ?_)
  refine fg_ap (fun x_5 => ?_)
  refine fg_bI g_X12_manyAt_f rfl (fun x_7 I_z1 J_z1 ri_z1 rj_z1 rq_z1 h_1 => ?_)
  rw [fe_I h_1, fe_J h_1, fe_ri h_1, fe_rj h_1, fe_rq h_1]
  refine fg_ap (fun x_14 => ?_)
  exact fv_rt rfl

def w_X12_isPlace : wS := ([], [], [], [], [])
theorem g_X12_isPlace_f {a0 : Int32} {I : Nat → Int32} {J : Nat → Int64} {ri : Nat → Nat → Int32} {rj : Nat → Nat → Int64} {rq : Nat → Nat → Option Nat}  : FRG Prod.snd w_X12_isPlace (I, J, ri, rj, rq) (g_X12_isPlace  a0 I J ri rj rq) := by
  rw [g_X12_isPlace_e]
  refine fg_bI g_X12_isRing_f rfl (fun x_1 I_z1 J_z1 ri_z1 rj_z1 rq_z1 h_1 => ?_)
  rw [fe_I h_1, fe_J h_1, fe_ri h_1, fe_rj h_1, fe_rq h_1]
  refine fg_if ?_ ?_
  · refine fg_bI g_X12_isLot_f rfl (fun x_22 I_z2 J_z2 ri_z2 rj_z2 rq_z2 h_2 => ?_)
    rw [fe_I h_2, fe_J h_2, fe_ri h_2, fe_rj h_2, fe_rq h_2]
    refine fg_if ?_ ?_
    · refine fg_if ?_ ?_
      · exact fv_rt rfl
      · exact fv_rt rfl
    · exact fv_rt rfl
  · exact fv_rt rfl

def w_X12_clausesOf : wS := ([], [], [], [], [])
theorem g_X12_clausesOf_f {a0 : Int32} {I : Nat → Int32} {J : Nat → Int64} {ri : Nat → Nat → Int32} {rj : Nat → Nat → Int64} {rq : Nat → Nat → Option Nat}  : FRG Prod.snd w_X12_clausesOf (I, J, ri, rj, rq) (g_X12_clausesOf  a0 I J ri rj rq) := by
  rw [g_X12_clausesOf_e]
  refine fg_ap (fun x_1 => ?_)
  refine fg_ap (fun x_3 => ?_)
  refine fg_ap (fun x_5 => ?_)
  exact fv_rt rfl

def w_X12_clauseAt : wS := ([], [], [], [], [])
theorem g_X12_clauseAt_f {a0 : Int32} {a1 : Int32} {I : Nat → Int32} {J : Nat → Int64} {ri : Nat → Nat → Int32} {rj : Nat → Nat → Int64} {rq : Nat → Nat → Option Nat}  : FRG Prod.snd w_X12_clauseAt (I, J, ri, rj, rq) (g_X12_clauseAt  a0 a1 I J ri rj rq) := by
  rw [g_X12_clauseAt_e]
  refine fg_ap (fun x_1 => ?_)
  refine fg_ap (fun x_3 => ?_)
  refine fg_ap (fun x_5 => ?_)
  refine fg_ap (fun x_7 => ?_)
  refine fg_ap (fun x_9 => ?_)
  exact fv_rt rfl

def w_X12_firstOf : wS := ([], [], [], [], [])
theorem g_X12_firstOf_L2_f {a0 : Int32} {a1 : Int32} {I : Nat → Int32} {J : Nat → Int64} {ri : Nat → Nat → Int32} {rj : Nat → Nat → Int64} {rq : Nat → Nat → Option Nat}  : ∀ (n_360 : Nat) (x_319 : Int32), FRG Prod.snd w_X12_firstOf (I, J, ri, rj, rq) (g_X12_firstOf_L2 a0 a1 I J ri rj rq n_360 x_319) := by
  intro n_360
  induction n_360 with
  | zero => intros; exact fv_rt rfl
  | succ n_360 ih =>
    intro x_319
    rw [g_X12_firstOf_L2_e]
    refine fg_bI g_X12_clausesOf_f rfl (fun x_365 I_z1 J_z1 ri_z1 rj_z1 rq_z1 h_1 => ?_)
    rw [fe_I h_1, fe_J h_1, fe_ri h_1, fe_rj h_1, fe_rq h_1]
    refine fg_if ?_ ?_
    · exact fv_rt rfl
    · refine fg_bI g_X12_clauseAt_f rfl (fun x_383 I_z2 J_z2 ri_z2 rj_z2 rq_z2 h_2 => ?_)
      rw [fe_I h_2, fe_J h_2, fe_ri h_2, fe_rj h_2, fe_rq h_2]
      refine fg_ap (fun x_392 => ?_)
      refine fg_if ?_ ?_
      · refine fg_bI g_X12_clauseAt_f rfl (fun x_400 I_z3 J_z3 ri_z3 rj_z3 rq_z3 h_3 => ?_)
        rw [fe_I h_3, fe_J h_3, fe_ri h_3, fe_rj h_3, fe_rq h_3]
        exact fv_rt rfl
      · refine fg_ap (fun x_397 => ?_)
        exact ih _
theorem g_X12_firstOf_f {a0 : Int32} {a1 : Int32} {I : Nat → Int32} {J : Nat → Int64} {ri : Nat → Nat → Int32} {rj : Nat → Nat → Int64} {rq : Nat → Nat → Option Nat}  : FRG Prod.snd w_X12_firstOf (I, J, ri, rj, rq) (g_X12_firstOf  a0 a1 I J ri rj rq) := by
  rw [g_X12_firstOf_e]
  exact g_X12_firstOf_L2_f  _ _

def w_X12_textFor : wS := ([], [], [], [], [])
theorem g_X12_textFor_K71_f {x_162 : Int32} {k_g_X12_textFor_L10 : (Int32) → Int32 × vM} {I : Nat → Int32} {J : Nat → Int64} {ri : Nat → Nat → Int32} {rj : Nat → Nat → Int64} {rq : Nat → Nat → Option Nat} (hk_g_X12_textFor_L10 : ∀ (x_162 : Int32), FRG Prod.snd w_X12_textFor (I, J, ri, rj, rq) (k_g_X12_textFor_L10 x_162)) : FRG Prod.snd w_X12_textFor (I, J, ri, rj, rq) (g_X12_textFor_K71 x_162 k_g_X12_textFor_L10 ) := by
  rw [g_X12_textFor_K71_e]
  refine fg_ap (fun x_278 => ?_)
  exact hk_g_X12_textFor_L10 _
theorem g_X12_textFor_L10_f {a0 : Int32} {a1 : Int32} {I : Nat → Int32} {J : Nat → Int64} {ri : Nat → Nat → Int32} {rj : Nat → Nat → Int64} {rq : Nat → Nat → Option Nat}  : ∀ (n_216 : Nat) (x_162 : Int32), FRG Prod.snd w_X12_textFor (I, J, ri, rj, rq) (g_X12_textFor_L10 a0 a1 I J ri rj rq n_216 x_162) := by
  intro n_216
  induction n_216 with
  | zero => intros; exact fv_rt rfl
  | succ n_216 ih =>
    intro x_162
    rw [g_X12_textFor_L10_e]
    refine fg_if ?_ ?_
    · exact fv_rt rfl
    · refine fg_ap (fun x_232 => ?_)
      refine fg_ap (fun x_234 => ?_)
      refine fg_ap (fun x_236 => ?_)
      refine fg_ap (fun x_238 => ?_)
      refine fg_ap (fun x_239 => ?_)
      refine fg_ap (fun x_241 => ?_)
      refine fg_ap (fun x_242 => ?_)
      refine fg_if ?_ ?_
      · exact g_X12_textFor_K71_f ih
      · refine fg_ap (fun x_299 => ?_)
        refine fg_bI g_X12_firstOf_f rfl (fun x_301 I_z1 J_z1 ri_z1 rj_z1 rq_z1 h_1 => ?_)
        rw [fe_I h_1, fe_J h_1, fe_ri h_1, fe_rj h_1, fe_rq h_1]
        refine fg_if ?_ ?_
        · exact g_X12_textFor_K71_f ih
        · exact fv_rt rfl
theorem g_X12_textFor_f {a0 : Int32} {a1 : Int32} {I : Nat → Int32} {J : Nat → Int64} {ri : Nat → Nat → Int32} {rj : Nat → Nat → Int64} {rq : Nat → Nat → Option Nat}  : FRG Prod.snd w_X12_textFor (I, J, ri, rj, rq) (g_X12_textFor  a0 a1 I J ri rj rq) := by
  rw [g_X12_textFor_e]
  refine fg_ap (fun y_2 => ?_)
  refine fg_ap (fun x_3 => ?_)
  exact g_X12_textFor_L10_f  _ _

def w_X12_keysFor : wS := ([406], [], [], [], [])
theorem g_X12_keysFor_f {a0 : Int32} {a1 : Int32} {I : Nat → Int32} {J : Nat → Int64} {ri : Nat → Nat → Int32} {rj : Nat → Nat → Int64} {rq : Nat → Nat → Option Nat}  : FRG Prod.snd w_X12_keysFor (I, J, ri, rj, rq) (g_X12_keysFor  a0 a1 I J ri rj rq) := by
  rw [g_X12_keysFor_e]
  refine fg_bI g_X12_textFor_f rfl (fun x_1 I_z1 J_z1 ri_z1 rj_z1 rq_z1 h_1 => ?_)
  rw [fe_I h_1, fe_J h_1, fe_ri h_1, fe_rj h_1, fe_rq h_1]
  refine fg_if ?_ ?_
  · refine fg_bI g_X12_firstOf_f rfl (fun x_17 I_z2 J_z2 ri_z2 rj_z2 rq_z2 h_2 => ?_)
    rw [fe_I h_2, fe_J h_2, fe_ri h_2, fe_rj h_2, fe_rq h_2]
    refine fg_I rfl (fun I_25 => ?_)
    exact fv_rt rfl
  · refine fg_I rfl (fun I_34 => ?_)
    exact fv_rt rfl

def w_X12_cellAt_c14 : wS := ([], [], [], [], [])
theorem g_X12_cellAt_c14_f {a0 : Int32} {I : Nat → Int32} {J : Nat → Int64} {ri : Nat → Nat → Int32} {rj : Nat → Nat → Int64} {rq : Nat → Nat → Option Nat}  : FRG Prod.snd w_X12_cellAt_c14 (I, J, ri, rj, rq) (g_X12_cellAt_c14  a0 I J ri rj rq) := by
  rw [g_X12_cellAt_c14_e]
  refine fg_ap (fun x_2 => ?_)
  refine fg_ap (fun x_4 => ?_)
  refine fg_ap (fun x_6 => ?_)
  refine fg_ap (fun x_8 => ?_)
  exact fv_rt rfl

def w_X12_personAt_c0 : wS := ([], [], [], [], [])
theorem g_X12_personAt_c0_f {a0 : Int32} {I : Nat → Int32} {J : Nat → Int64} {ri : Nat → Nat → Int32} {rj : Nat → Nat → Int64} {rq : Nat → Nat → Option Nat}  : FRG Prod.snd w_X12_personAt_c0 (I, J, ri, rj, rq) (g_X12_personAt_c0  a0 I J ri rj rq) := by
  rw [g_X12_personAt_c0_e]
  refine fg_ap (fun x_1 => ?_)
  refine fg_ap (fun x_3 => ?_)
  refine fg_ap (fun x_5 => ?_)
  refine fg_ap (fun x_7 => ?_)
  exact fv_rt rfl

def w_X12_personAt_c1 : wS := ([], [], [], [], [])
theorem g_X12_personAt_c1_f {a0 : Int32} {I : Nat → Int32} {J : Nat → Int64} {ri : Nat → Nat → Int32} {rj : Nat → Nat → Int64} {rq : Nat → Nat → Option Nat}  : FRG Prod.snd w_X12_personAt_c1 (I, J, ri, rj, rq) (g_X12_personAt_c1  a0 I J ri rj rq) := by
  rw [g_X12_personAt_c1_e]
  refine fg_ap (fun x_1 => ?_)
  refine fg_ap (fun x_3 => ?_)
  refine fg_ap (fun x_5 => ?_)
  refine fg_ap (fun x_7 => ?_)
  exact fv_rt rfl

def w_X12_personAt_c2 : wS := ([], [], [], [], [])
theorem g_X12_personAt_c2_f {a0 : Int32} {I : Nat → Int32} {J : Nat → Int64} {ri : Nat → Nat → Int32} {rj : Nat → Nat → Int64} {rq : Nat → Nat → Option Nat}  : FRG Prod.snd w_X12_personAt_c2 (I, J, ri, rj, rq) (g_X12_personAt_c2  a0 I J ri rj rq) := by
  rw [g_X12_personAt_c2_e]
  refine fg_ap (fun x_1 => ?_)
  refine fg_ap (fun x_3 => ?_)
  refine fg_ap (fun x_5 => ?_)
  refine fg_ap (fun x_7 => ?_)
  exact fv_rt rfl

def w_X12_named : wS := ([], [], [], [], [])
theorem g_X12_named_f {a0 : Int32} {a1 : Int32} {a2 : Int32} {a3 : Int32} {I : Nat → Int32} {J : Nat → Int64} {ri : Nat → Nat → Int32} {rj : Nat → Nat → Int64} {rq : Nat → Nat → Option Nat}  : FRG Prod.snd w_X12_named (I, J, ri, rj, rq) (g_X12_named  a0 a1 a2 a3 I J ri rj rq) := by
  rw [g_X12_named_e]
  refine fg_if ?_ ?_
  · refine fg_bI g_X12_personAt_c1_f rfl (fun x_7 I_z1 J_z1 ri_z1 rj_z1 rq_z1 h_1 => ?_)
    rw [fe_I h_1, fe_J h_1, fe_ri h_1, fe_rj h_1, fe_rq h_1]
    exact fv_rt rfl
  · refine fg_if ?_ ?_
    · refine fg_bI g_X12_personAt_c0_f rfl (fun x_21 I_z2 J_z2 ri_z2 rj_z2 rq_z2 h_2 => ?_)
      rw [fe_I h_2, fe_J h_2, fe_ri h_2, fe_rj h_2, fe_rq h_2]
      exact fv_rt rfl
    · refine fg_if ?_ ?_
      · refine fg_bI g_X12_personAt_c2_f rfl (fun x_35 I_z3 J_z3 ri_z3 rj_z3 rq_z3 h_3 => ?_)
        rw [fe_I h_3, fe_J h_3, fe_ri h_3, fe_rj h_3, fe_rq h_3]
        exact fv_rt rfl
      · refine fg_if ?_ ?_
        · refine fg_bI g_X12_personAt_c3_f rfl (fun x_49 I_z4 J_z4 ri_z4 rj_z4 rq_z4 h_4 => ?_)
          rw [fe_I h_4, fe_J h_4, fe_ri h_4, fe_rj h_4, fe_rq h_4]
          exact fv_rt rfl
        · refine fg_if ?_ ?_
          · exact fv_rt rfl
          · exact fv_rt rfl

def w_X12_isAhead : wS := ([], [], [], [], [])
theorem g_X12_isAhead_K102_f {I : Nat → Int32} {J : Nat → Int64} {ri : Nat → Nat → Int32} {rj : Nat → Nat → Int64} {rq : Nat → Nat → Option Nat}  : FRG Prod.snd w_X12_isAhead (I, J, ri, rj, rq) (g_X12_isAhead_K102 I J ri rj rq ) := by
  rw [g_X12_isAhead_K102_e]
  exact fv_rt rfl
theorem g_X12_isAhead_K102_2_f {I : Nat → Int32} {J : Nat → Int64} {ri : Nat → Nat → Int32} {rj : Nat → Nat → Int64} {rq : Nat → Nat → Option Nat}  : FRG Prod.snd w_X12_isAhead (I, J, ri, rj, rq) (g_X12_isAhead_K102_2 I J ri rj rq ) := by
  rw [g_X12_isAhead_K102_2_e]
  exact fv_rt rfl
theorem g_X12_isAhead_K92_f {I : Nat → Int32} {J : Nat → Int64} {ri : Nat → Nat → Int32} {rj : Nat → Nat → Int64} {rq : Nat → Nat → Option Nat} {x_1302 : Int32}  : FRG Prod.snd w_X12_isAhead (I, J, ri, rj, rq) (g_X12_isAhead_K92 I J ri rj rq x_1302 ) := by
  rw [g_X12_isAhead_K92_e]
  refine fg_if ?_ ?_
  · exact g_X12_isAhead_K102_f 
  · exact g_X12_isAhead_K102_2_f 
theorem g_X12_isAhead_K102_3_f {I : Nat → Int32} {J : Nat → Int64} {ri : Nat → Nat → Int32} {rj : Nat → Nat → Int64} {rq : Nat → Nat → Option Nat}  : FRG Prod.snd w_X12_isAhead (I, J, ri, rj, rq) (g_X12_isAhead_K102_3 I J ri rj rq ) := by
  rw [g_X12_isAhead_K102_3_e]
  exact fv_rt rfl
theorem g_X12_isAhead_K102_4_f {I : Nat → Int32} {J : Nat → Int64} {ri : Nat → Nat → Int32} {rj : Nat → Nat → Int64} {rq : Nat → Nat → Option Nat}  : FRG Prod.snd w_X12_isAhead (I, J, ri, rj, rq) (g_X12_isAhead_K102_4 I J ri rj rq ) := by
  rw [g_X12_isAhead_K102_4_e]
  exact fv_rt rfl
theorem g_X12_isAhead_K92_2_f {I : Nat → Int32} {J : Nat → Int64} {ri : Nat → Nat → Int32} {rj : Nat → Nat → Int64} {rq : Nat → Nat → Option Nat} {x_1302 : Int32}  : FRG Prod.snd w_X12_isAhead (I, J, ri, rj, rq) (g_X12_isAhead_K92_2 I J ri rj rq x_1302 ) := by
  rw [g_X12_isAhead_K92_2_e]
  refine fg_if ?_ ?_
  · exact g_X12_isAhead_K102_3_f 
  · exact g_X12_isAhead_K102_4_f 
theorem g_X12_isAhead_K49_f {a0 : Int32} {a1 : Int32} {a2 : Int32} {I : Nat → Int32} {J : Nat → Int64} {ri : Nat → Nat → Int32} {rj : Nat → Nat → Int64} {rq : Nat → Nat → Option Nat} {x_1206 : Int32} {k_g_X12_isAhead_L3 : (Int32) → Int32 × vM} {x_1302 : Int32} {x_1310 : Int32} (hk_g_X12_isAhead_L3 : ∀ (x_1206 : Int32), FRG Prod.snd w_X12_isAhead (I, J, ri, rj, rq) (k_g_X12_isAhead_L3 x_1206)) : FRG Prod.snd w_X12_isAhead (I, J, ri, rj, rq) (g_X12_isAhead_K49 a0 a1 a2 I J ri rj rq x_1206 k_g_X12_isAhead_L3 x_1302 x_1310) := by
  rw [g_X12_isAhead_K49_e]
  refine fg_bI g_X12_named_f rfl (fun x_1359 I_z1 J_z1 ri_z1 rj_z1 rq_z1 h_1 => ?_)
  rw [fe_I h_1, fe_J h_1, fe_ri h_1, fe_rj h_1, fe_rq h_1]
  refine fg_bI g_X12_named_f rfl (fun x_1366 I_z2 J_z2 ri_z2 rj_z2 rq_z2 h_2 => ?_)
  rw [fe_I h_2, fe_J h_2, fe_ri h_2, fe_rj h_2, fe_rq h_2]
  refine fg_if ?_ ?_
  · refine fg_ap (fun x_1377 => ?_)
    exact hk_g_X12_isAhead_L3 _
  · refine fg_if ?_ ?_
    · exact g_X12_isAhead_K92_f 
    · exact g_X12_isAhead_K92_2_f 
theorem g_X12_isAhead_L3_f {a0 : Int32} {a1 : Int32} {a2 : Int32} {I : Nat → Int32} {J : Nat → Int64} {ri : Nat → Nat → Int32} {rj : Nat → Nat → Int64} {rq : Nat → Nat → Option Nat}  : ∀ (n_1278 : Nat) (x_1206 : Int32), FRG Prod.snd w_X12_isAhead (I, J, ri, rj, rq) (g_X12_isAhead_L3 a0 a1 a2 I J ri rj rq n_1278 x_1206) := by
  intro n_1278
  induction n_1278 with
  | zero => intros; exact fv_rt rfl
  | succ n_1278 ih =>
    intro x_1206
    rw [g_X12_isAhead_L3_e]
    refine fg_ap (fun y_1284 => ?_)
    refine fg_ap (fun x_1285 => ?_)
    refine fg_ap (fun x_1287 => ?_)
    refine fg_if ?_ ?_
    · exact fv_rt rfl
    · refine fg_ap (fun x_1298 => ?_)
      refine fg_ap (fun x_1300 => ?_)
      refine fg_ap (fun x_1302 => ?_)
      refine fg_if ?_ ?_
      · exact g_X12_isAhead_K49_f ih
      · refine fg_ap (fun x_1481 => ?_)
        exact g_X12_isAhead_K49_f ih
theorem g_X12_isAhead_f {a0 : Int32} {a1 : Int32} {a2 : Int32} {I : Nat → Int32} {J : Nat → Int64} {ri : Nat → Nat → Int32} {rj : Nat → Nat → Int64} {rq : Nat → Nat → Option Nat}  : FRG Prod.snd w_X12_isAhead (I, J, ri, rj, rq) (g_X12_isAhead  a0 a1 a2 I J ri rj rq) := by
  rw [g_X12_isAhead_e]
  exact g_X12_isAhead_L3_f  _ _

def w_X12_isSo : wS := ([], [], [405], [404], [])
theorem g_X12_isSo_K349_f {x_957 : Int32} {x_959 : Int32} {ri_960 : Nat → Nat → Int32} {rj_961 : Nat → Nat → Int64} {x_1281 : Int32} {k_g_X12_isSo_L16 : (Int32) → (Int32) → (Int32) → (Nat → Nat → Int32) → (Nat → Nat → Int64) → Int32 × vM} {x_1278 : Int32} {I : Nat → Int32} {J : Nat → Int64} {rq : Nat → Nat → Option Nat} (hk_g_X12_isSo_L16 : ∀ (x_957 : Int32) (x_958 : Int32) (x_959 : Int32) (ri_960 : Nat → Nat → Int32) (rj_961 : Nat → Nat → Int64), FRG Prod.snd w_X12_isSo (I, J, ri_960, rj_961, rq) (k_g_X12_isSo_L16 x_957 x_958 x_959 ri_960 rj_961)) : FRG Prod.snd w_X12_isSo (I, J, ri_960, rj_961, rq) (g_X12_isSo_K349 x_957 x_959 ri_960 rj_961 x_1281 k_g_X12_isSo_L16 x_1278 ) := by
  rw [g_X12_isSo_K349_e]
  refine fg_ri rfl (fun r_1327 => ?_)
  refine fg_ap (fun x_1328 => ?_)
  exact hk_g_X12_isSo_L16 _ _ _ _ _
theorem g_X12_isSo_K349_2_f {x_957 : Int32} {x_959 : Int32} {ri_960 : Nat → Nat → Int32} {rj_961 : Nat → Nat → Int64} {x_1281 : Int32} {k_g_X12_isSo_L16 : (Int32) → (Int32) → (Int32) → (Nat → Nat → Int32) → (Nat → Nat → Int64) → Int32 × vM} {x_1278 : Int32} {I : Nat → Int32} {J : Nat → Int64} {rq : Nat → Nat → Option Nat} (hk_g_X12_isSo_L16 : ∀ (x_957 : Int32) (x_958 : Int32) (x_959 : Int32) (ri_960 : Nat → Nat → Int32) (rj_961 : Nat → Nat → Int64), FRG Prod.snd w_X12_isSo (I, J, ri_960, rj_961, rq) (k_g_X12_isSo_L16 x_957 x_958 x_959 ri_960 rj_961)) : FRG Prod.snd w_X12_isSo (I, J, ri_960, rj_961, rq) (g_X12_isSo_K349_2 x_957 x_959 ri_960 rj_961 x_1281 k_g_X12_isSo_L16 x_1278 ) := by
  rw [g_X12_isSo_K349_2_e]
  refine fg_ri rfl (fun r_1331 => ?_)
  refine fg_ap (fun x_1332 => ?_)
  exact hk_g_X12_isSo_L16 _ _ _ _ _
theorem g_X12_isSo_K344_f {x_957 : Int32} {x_959 : Int32} {ri_960 : Nat → Nat → Int32} {rj_961 : Nat → Nat → Int64} {x_1281 : Int32} {k_g_X12_isSo_L16 : (Int32) → (Int32) → (Int32) → (Nat → Nat → Int32) → (Nat → Nat → Int64) → Int32 × vM} {x_1278 : Int32} {I : Nat → Int32} {J : Nat → Int64} {rq : Nat → Nat → Option Nat} (hk_g_X12_isSo_L16 : ∀ (x_957 : Int32) (x_958 : Int32) (x_959 : Int32) (ri_960 : Nat → Nat → Int32) (rj_961 : Nat → Nat → Int64), FRG Prod.snd w_X12_isSo (I, J, ri_960, rj_961, rq) (k_g_X12_isSo_L16 x_957 x_958 x_959 ri_960 rj_961)) : FRG Prod.snd w_X12_isSo (I, J, ri_960, rj_961, rq) (g_X12_isSo_K344 x_957 x_959 ri_960 rj_961 x_1281 k_g_X12_isSo_L16 x_1278 ) := by
  rw [g_X12_isSo_K344_e]
  exact g_X12_isSo_K349_2_f hk_g_X12_isSo_L16
theorem g_X12_isSo_K318_f {x_957 : Int32} {x_959 : Int32} {ri_960 : Nat → Nat → Int32} {rj_961 : Nat → Nat → Int64} {x_1281 : Int32} {k_g_X12_isSo_L16 : (Int32) → (Int32) → (Int32) → (Nat → Nat → Int32) → (Nat → Nat → Int64) → Int32 × vM} {x_1278 : Int32} {I : Nat → Int32} {J : Nat → Int64} {rq : Nat → Nat → Option Nat} (hk_g_X12_isSo_L16 : ∀ (x_957 : Int32) (x_958 : Int32) (x_959 : Int32) (ri_960 : Nat → Nat → Int32) (rj_961 : Nat → Nat → Int64), FRG Prod.snd w_X12_isSo (I, J, ri_960, rj_961, rq) (k_g_X12_isSo_L16 x_957 x_958 x_959 ri_960 rj_961)) : FRG Prod.snd w_X12_isSo (I, J, ri_960, rj_961, rq) (g_X12_isSo_K318 x_957 x_959 ri_960 rj_961 x_1281 k_g_X12_isSo_L16 x_1278 ) := by
  rw [g_X12_isSo_K318_e]
  exact g_X12_isSo_K349_f hk_g_X12_isSo_L16
theorem g_X12_isSo_K270_f {x_957 : Int32} {x_958 : Int32} {x_959 : Int32} {ri_960 : Nat → Nat → Int32} {rj_961 : Nat → Nat → Int64} {k_g_X12_isSo_L16 : (Int32) → (Int32) → (Int32) → (Nat → Nat → Int32) → (Nat → Nat → Int64) → Int32 × vM} {x_1422 : Int32} {I : Nat → Int32} {J : Nat → Int64} {rq : Nat → Nat → Option Nat} (hk_g_X12_isSo_L16 : ∀ (x_957 : Int32) (x_958 : Int32) (x_959 : Int32) (ri_960 : Nat → Nat → Int32) (rj_961 : Nat → Nat → Int64), FRG Prod.snd w_X12_isSo (I, J, ri_960, rj_961, rq) (k_g_X12_isSo_L16 x_957 x_958 x_959 ri_960 rj_961)) : FRG Prod.snd w_X12_isSo (I, J, ri_960, rj_961, rq) (g_X12_isSo_K270 x_957 x_958 x_959 ri_960 rj_961 k_g_X12_isSo_L16 x_1422 ) := by
  rw [g_X12_isSo_K270_e]
  refine fg_ri rfl (fun r_1444 => ?_)
  refine fg_ap (fun x_1445 => ?_)
  exact hk_g_X12_isSo_L16 _ _ _ _ _
theorem g_X12_isSo_K270_2_f {x_957 : Int32} {x_958 : Int32} {x_959 : Int32} {ri_960 : Nat → Nat → Int32} {rj_961 : Nat → Nat → Int64} {k_g_X12_isSo_L16 : (Int32) → (Int32) → (Int32) → (Nat → Nat → Int32) → (Nat → Nat → Int64) → Int32 × vM} {x_1422 : Int32} {I : Nat → Int32} {J : Nat → Int64} {rq : Nat → Nat → Option Nat} (hk_g_X12_isSo_L16 : ∀ (x_957 : Int32) (x_958 : Int32) (x_959 : Int32) (ri_960 : Nat → Nat → Int32) (rj_961 : Nat → Nat → Int64), FRG Prod.snd w_X12_isSo (I, J, ri_960, rj_961, rq) (k_g_X12_isSo_L16 x_957 x_958 x_959 ri_960 rj_961)) : FRG Prod.snd w_X12_isSo (I, J, ri_960, rj_961, rq) (g_X12_isSo_K270_2 x_957 x_958 x_959 ri_960 rj_961 k_g_X12_isSo_L16 x_1422 ) := by
  rw [g_X12_isSo_K270_2_e]
  refine fg_ri rfl (fun r_1450 => ?_)
  refine fg_ap (fun x_1451 => ?_)
  exact hk_g_X12_isSo_L16 _ _ _ _ _
theorem g_X12_isSo_K116_f {x_957 : Int32} {x_958 : Int32} {x_959 : Int32} {ri_960 : Nat → Nat → Int32} {rj_961 : Nat → Nat → Int64} {k_g_X12_isSo_L16 : (Int32) → (Int32) → (Int32) → (Nat → Nat → Int32) → (Nat → Nat → Int64) → Int32 × vM} {I : Nat → Int32} {J : Nat → Int64} {rq : Nat → Nat → Option Nat} {x_1542 : Int64} (hk_g_X12_isSo_L16 : ∀ (x_957 : Int32) (x_958 : Int32) (x_959 : Int32) (ri_960 : Nat → Nat → Int32) (rj_961 : Nat → Nat → Int64), FRG Prod.snd w_X12_isSo (I, J, ri_960, rj_961, rq) (k_g_X12_isSo_L16 x_957 x_958 x_959 ri_960 rj_961)) : FRG Prod.snd w_X12_isSo (I, J, ri_960, rj_961, rq) (g_X12_isSo_K116 x_957 x_958 x_959 ri_960 rj_961 k_g_X12_isSo_L16 x_1542) := by
  rw [g_X12_isSo_K116_e]
  refine fg_rj rfl (fun r_1549 => ?_)
  refine fg_ap (fun x_1550 => ?_)
  refine fg_ap (fun x_1552 => ?_)
  exact hk_g_X12_isSo_L16 _ _ _ _ _
theorem g_X12_isSo_L16_f {a0 : Int32} {a1 : Int32} {a2 : Int32} {a3 : Int32} {a4 : Int32} {I : Nat → Int32} {J : Nat → Int64} {rq : Nat → Nat → Option Nat}  : ∀ (n_1183 : Nat) (x_957 : Int32) (x_958 : Int32) (x_959 : Int32) (ri_960 : Nat → Nat → Int32) (rj_961 : Nat → Nat → Int64), FRG Prod.snd w_X12_isSo (I, J, ri_960, rj_961, rq) (g_X12_isSo_L16 a0 a1 a2 a3 a4 I J rq n_1183 x_957 x_958 x_959 ri_960 rj_961) := by
  intro n_1183
  induction n_1183 with
  | zero => intros; exact fv_rt rfl
  | succ n_1183 ih =>
    intro x_957 x_958 x_959 ri_960 rj_961
    rw [g_X12_isSo_L16_e]
    refine fg_ap (fun x_1198 => ?_)
    refine fg_ap (fun x_1200 => ?_)
    refine fg_if ?_ ?_
    · refine fg_ap (fun x_1211 => ?_)
      exact fv_rt rfl
    · refine fg_ap (fun x_1217 => ?_)
      refine fg_ap (fun x_1219 => ?_)
      refine fg_ap (fun x_1221 => ?_)
      refine fg_ap (fun x_1223 => ?_)
      refine fg_ap (fun x_1225 => ?_)
      refine fg_ap (fun x_1227 => ?_)
      refine fg_ap (fun x_1228 => ?_)
      refine fg_ap (fun x_1230 => ?_)
      refine fg_ap (fun x_1232 => ?_)
      refine fg_ap (fun x_1234 => ?_)
      refine fg_ap (fun x_1236 => ?_)
      refine fg_ap (fun x_1238 => ?_)
      refine fg_ap (fun x_1240 => ?_)
      refine fg_if ?_ ?_
      · refine fg_if ?_ ?_
        · refine fg_ap (fun x_1515 => ?_)
          refine fg_ap (fun x_1517 => ?_)
          refine fg_ap (fun x_1519 => ?_)
          refine fg_ap (fun x_1520 => ?_)
          refine fg_rj rfl (fun r_1521 => ?_)
          refine fg_ap (fun x_1522 => ?_)
          exact ih _ _ _ _ _
        · refine fg_if ?_ ?_
          · refine fg_if ?_ ?_
            · refine fg_if ?_ ?_
              · refine fg_ap (fun x_1422 => ?_)
                refine fg_ap (fun x_1424 => ?_)
                refine fg_ap (fun x_1426 => ?_)
                refine fg_if ?_ ?_
                · exact g_X12_isSo_K270_2_f ih
                · exact g_X12_isSo_K270_f ih
              · refine fg_ap (fun x_1278 => ?_)
                refine fg_ap (fun x_1281 => ?_)
                refine fg_if ?_ ?_
                · refine fg_ap (fun x_1380 => ?_)
                  refine fg_ap (fun x_1382 => ?_)
                  refine fg_if ?_ ?_
                  · exact g_X12_isSo_K318_f ih
                  · refine fg_ap (fun x_1406 => ?_)
                    refine fg_if ?_ ?_
                    · exact g_X12_isSo_K318_f ih
                    · exact g_X12_isSo_K349_2_f ih
                · refine fg_ap (fun x_1341 => ?_)
                  refine fg_ap (fun x_1343 => ?_)
                  refine fg_if ?_ ?_
                  · refine fg_ap (fun x_1367 => ?_)
                    refine fg_if ?_ ?_
                    · exact g_X12_isSo_K349_f ih
                    · exact g_X12_isSo_K344_f ih
                  · exact g_X12_isSo_K344_f ih
            · refine fg_ap (fun x_1466 => ?_)
              refine fg_ap (fun x_1470 => ?_)
              refine fg_ap (fun x_1471 => ?_)
              refine fg_ap (fun x_1473 => ?_)
              refine fg_ap (fun x_1474 => ?_)
              refine fg_ri rfl (fun r_1482 => ?_)
              refine fg_ap (fun x_1483 => ?_)
              refine fg_ap (fun x_1485 => ?_)
              exact ih _ _ _ _ _
          · refine fg_ap (fun x_1491 => ?_)
            refine fg_ap (fun x_1494 => ?_)
            refine fg_ap (fun x_1496 => ?_)
            refine fg_ap (fun x_1498 => ?_)
            refine fg_ap (fun x_1499 => ?_)
            refine fg_ap (fun x_1500 => ?_)
            refine fg_rj rfl (fun r_1507 => ?_)
            refine fg_ap (fun x_1508 => ?_)
            exact ih _ _ _ _ _
      · refine fg_if ?_ ?_
        · refine fg_ap (fun x_1569 => ?_)
          exact g_X12_isSo_K116_f ih
        · refine fg_bI g_X12_named_f rfl (fun x_1559 I_z1 J_z1 ri_z1 rj_z1 rq_z1 h_1 => ?_)
          rw [fe_I h_1, fe_J h_1, fe_ri h_1, fe_rj h_1, fe_rq h_1]
          refine fg_ap (fun x_1566 => ?_)
          exact g_X12_isSo_K116_f ih
theorem g_X12_isSo_f {a0 : Int32} {a1 : Int32} {a2 : Int32} {a3 : Int32} {a4 : Int32} {I : Nat → Int32} {J : Nat → Int64} {ri : Nat → Nat → Int32} {rj : Nat → Nat → Int64} {rq : Nat → Nat → Option Nat}  : FRG Prod.snd w_X12_isSo (I, J, ri, rj, rq) (g_X12_isSo  a0 a1 a2 a3 a4 I J ri rj rq) := by
  rw [g_X12_isSo_e]
  refine fg_ap (fun x_1 => ?_)
  refine fg_ap (fun x_3 => ?_)
  exact g_X12_isSo_L16_f  _ _ _ _ _ _

def w_X12_firstSo : wS := ([], [], [405], [404], [])
theorem g_X12_firstSo_K74_f {I : Nat → Int32} {J : Nat → Int64} {rq : Nat → Nat → Option Nat} {ri_550 : Nat → Nat → Int32} {rj_551 : Nat → Nat → Int64}  : FRG Prod.snd w_X12_firstSo (I, J, ri_550, rj_551, rq) (g_X12_firstSo_K74 I J rq ri_550 rj_551 ) := by
  rw [g_X12_firstSo_K74_e]
  exact fv_rt rfl
theorem g_X12_firstSo_L11_f {a0 : Int32} {a1 : Int32} {a2 : Int32} {a3 : Int32} {I : Nat → Int32} {J : Nat → Int64} {rq : Nat → Nat → Option Nat} {x_1 : Int32}  : ∀ (n_618 : Nat) (x_549 : Int32) (ri_550 : Nat → Nat → Int32) (rj_551 : Nat → Nat → Int64), FRG Prod.snd w_X12_firstSo (I, J, ri_550, rj_551, rq) (g_X12_firstSo_L11 a0 a1 a2 a3 I J rq x_1 n_618 x_549 ri_550 rj_551) := by
  intro n_618
  induction n_618 with
  | zero => intros; exact fv_rt rfl
  | succ n_618 ih =>
    intro x_549 ri_550 rj_551
    rw [g_X12_firstSo_L11_e]
    refine fg_if ?_ ?_
    · exact g_X12_firstSo_K74_f 
    · refine fg_bI g_X12_clausesOf_f rfl (fun x_698 I_z1 J_z1 ri_z1 rj_z1 rq_z1 h_1 => ?_)
      rw [fe_I h_1, fe_J h_1, fe_ri h_1, fe_rj h_1, fe_rq h_1]
      refine fg_if ?_ ?_
      · exact g_X12_firstSo_K74_f 
      · refine fg_bI g_X12_clauseAt_f rfl (fun x_716 I_z2 J_z2 ri_z2 rj_z2 rq_z2 h_2 => ?_)
        rw [fe_I h_2, fe_J h_2, fe_ri h_2, fe_rj h_2, fe_rq h_2]
        refine fg_ap (fun x_725 => ?_)
        refine fg_if ?_ ?_
        · refine fg_bI g_X12_clauseAt_f rfl (fun x_735 I_z3 J_z3 ri_z3 rj_z3 rq_z3 h_3 => ?_)
          rw [fe_I h_3, fe_J h_3, fe_ri h_3, fe_rj h_3, fe_rq h_3]
          refine fg_bI g_X12_isSo_f rfl (fun x_745 I_z4 J_z4 ri_747 rj_748 rq_z4 h_4 => ?_)
          rw [fe_I h_4, fe_J h_4, fe_rq h_4]
          refine fg_if ?_ ?_
          · refine fg_ap (fun x_763 => ?_)
            exact ih _ _ _
          · exact fv_rt rfl
        · refine fg_ap (fun x_731 => ?_)
          exact ih _ _ _
theorem g_X12_firstSo_f {a0 : Int32} {a1 : Int32} {a2 : Int32} {a3 : Int32} {I : Nat → Int32} {J : Nat → Int64} {ri : Nat → Nat → Int32} {rj : Nat → Nat → Int64} {rq : Nat → Nat → Option Nat}  : FRG Prod.snd w_X12_firstSo (I, J, ri, rj, rq) (g_X12_firstSo  a0 a1 a2 a3 I J ri rj rq) := by
  rw [g_X12_firstSo_e]
  refine fg_bI g_X12_textFor_f rfl (fun x_1 I_z5 J_z5 ri_z5 rj_z5 rq_z5 h_5 => ?_)
  rw [fe_I h_5, fe_J h_5, fe_ri h_5, fe_rj h_5, fe_rq h_5]
  exact g_X12_firstSo_L11_f  _ _ _ _

def w_X12_numberOf : wS := ([], [], [], [], [])
theorem g_X12_numberOf_f {a0 : Int32} {a1 : Int32} {a2 : Int32} {I : Nat → Int32} {J : Nat → Int64} {ri : Nat → Nat → Int32} {rj : Nat → Nat → Int64} {rq : Nat → Nat → Option Nat}  : FRG Prod.snd w_X12_numberOf (I, J, ri, rj, rq) (g_X12_numberOf  a0 a1 a2 I J ri rj rq) := by
  rw [g_X12_numberOf_e]
  refine fg_bI g_X12_textFor_f rfl (fun x_1 I_z1 J_z1 ri_z1 rj_z1 rq_z1 h_1 => ?_)
  rw [fe_I h_1, fe_J h_1, fe_ri h_1, fe_rj h_1, fe_rq h_1]
  refine fg_if ?_ ?_
  · refine fg_bI g_X12_firstOf_f rfl (fun x_17 I_z2 J_z2 ri_z2 rj_z2 rq_z2 h_2 => ?_)
    rw [fe_I h_2, fe_J h_2, fe_ri h_2, fe_rj h_2, fe_rq h_2]
    refine fg_ap (fun x_25 => ?_)
    refine fg_ap (fun x_27 => ?_)
    exact fv_rt rfl
  · exact fv_rt rfl

def w_X12_isFor : wS := ([], [], [405], [404], [])
theorem g_X12_isFor_f {a0 : Int32} {a1 : Int32} {a2 : Int32} {I : Nat → Int32} {J : Nat → Int64} {ri : Nat → Nat → Int32} {rj : Nat → Nat → Int64} {rq : Nat → Nat → Option Nat}  : FRG Prod.snd w_X12_isFor (I, J, ri, rj, rq) (g_X12_isFor  a0 a1 a2 I J ri rj rq) := by
  rw [g_X12_isFor_e]
  refine fg_bI g_X12_textFor_f rfl (fun x_1 I_z1 J_z1 ri_z1 rj_z1 rq_z1 h_1 => ?_)
  rw [fe_I h_1, fe_J h_1, fe_ri h_1, fe_rj h_1, fe_rq h_1]
  refine fg_if ?_ ?_
  · exact fv_rt rfl
  · refine fg_bI g_X12_firstSo_f rfl (fun x_19 I_z2 J_z2 ri_21 rj_22 rq_z2 h_2 => ?_)
    rw [fe_I h_2, fe_J h_2, fe_rq h_2]
    refine fg_if ?_ ?_
    · exact fv_rt rfl
    · exact fv_rt rfl

def w_X12_cellAt_c1 : wS := ([], [], [], [], [])
theorem g_X12_cellAt_c1_f {a0 : Int32} {I : Nat → Int32} {J : Nat → Int64} {ri : Nat → Nat → Int32} {rj : Nat → Nat → Int64} {rq : Nat → Nat → Option Nat}  : FRG Prod.snd w_X12_cellAt_c1 (I, J, ri, rj, rq) (g_X12_cellAt_c1  a0 I J ri rj rq) := by
  rw [g_X12_cellAt_c1_e]
  refine fg_ap (fun x_2 => ?_)
  refine fg_ap (fun x_4 => ?_)
  refine fg_ap (fun x_6 => ?_)
  refine fg_ap (fun x_8 => ?_)
  exact fv_rt rfl

def w_X12_cellAt_c4 : wS := ([], [], [], [], [])
theorem g_X12_cellAt_c4_f {a0 : Int32} {I : Nat → Int32} {J : Nat → Int64} {ri : Nat → Nat → Int32} {rj : Nat → Nat → Int64} {rq : Nat → Nat → Option Nat}  : FRG Prod.snd w_X12_cellAt_c4 (I, J, ri, rj, rq) (g_X12_cellAt_c4  a0 I J ri rj rq) := by
  rw [g_X12_cellAt_c4_e]
  refine fg_ap (fun x_2 => ?_)
  refine fg_ap (fun x_4 => ?_)
  refine fg_ap (fun x_6 => ?_)
  refine fg_ap (fun x_8 => ?_)
  exact fv_rt rfl

def w_X12_cellAt_c5 : wS := ([], [], [], [], [])
theorem g_X12_cellAt_c5_f {a0 : Int32} {I : Nat → Int32} {J : Nat → Int64} {ri : Nat → Nat → Int32} {rj : Nat → Nat → Int64} {rq : Nat → Nat → Option Nat}  : FRG Prod.snd w_X12_cellAt_c5 (I, J, ri, rj, rq) (g_X12_cellAt_c5  a0 I J ri rj rq) := by
  rw [g_X12_cellAt_c5_e]
  refine fg_ap (fun x_2 => ?_)
  refine fg_ap (fun x_4 => ?_)
  refine fg_ap (fun x_6 => ?_)
  refine fg_ap (fun x_8 => ?_)
  exact fv_rt rfl

def w_X12_cellAt_c6 : wS := ([], [], [], [], [])
theorem g_X12_cellAt_c6_f {a0 : Int32} {I : Nat → Int32} {J : Nat → Int64} {ri : Nat → Nat → Int32} {rj : Nat → Nat → Int64} {rq : Nat → Nat → Option Nat}  : FRG Prod.snd w_X12_cellAt_c6 (I, J, ri, rj, rq) (g_X12_cellAt_c6  a0 I J ri rj rq) := by
  rw [g_X12_cellAt_c6_e]
  refine fg_ap (fun x_2 => ?_)
  refine fg_ap (fun x_4 => ?_)
  refine fg_ap (fun x_6 => ?_)
  refine fg_ap (fun x_8 => ?_)
  exact fv_rt rfl

def w_X12_topOf : wS := ([], [], [], [], [])
theorem g_X12_topOf_f {a0 : Int32} {I : Nat → Int32} {J : Nat → Int64} {ri : Nat → Nat → Int32} {rj : Nat → Nat → Int64} {rq : Nat → Nat → Option Nat}  : FRG Prod.snd w_X12_topOf (I, J, ri, rj, rq) (g_X12_topOf  a0 I J ri rj rq) := by
  rw [g_X12_topOf_e]
  refine fg_bI g_X12_cellAt_c1_f rfl (fun x_1 I_z1 J_z1 ri_z1 rj_z1 rq_z1 h_1 => ?_)
  rw [fe_I h_1, fe_J h_1, fe_ri h_1, fe_rj h_1, fe_rq h_1]
  refine fg_bI g_X12_cellAt_c4_f rfl (fun x_8 I_z2 J_z2 ri_z2 rj_z2 rq_z2 h_2 => ?_)
  rw [fe_I h_2, fe_J h_2, fe_ri h_2, fe_rj h_2, fe_rq h_2]
  refine fg_ap (fun x_15 => ?_)
  refine fg_bI g_X12_cellAt_c5_f rfl (fun x_16 I_z3 J_z3 ri_z3 rj_z3 rq_z3 h_3 => ?_)
  rw [fe_I h_3, fe_J h_3, fe_ri h_3, fe_rj h_3, fe_rq h_3]
  refine fg_ap (fun x_23 => ?_)
  refine fg_ap (fun x_24 => ?_)
  refine fg_bI g_X12_cellAt_c6_f rfl (fun x_25 I_z4 J_z4 ri_z4 rj_z4 rq_z4 h_4 => ?_)
  rw [fe_I h_4, fe_J h_4, fe_ri h_4, fe_rj h_4, fe_rq h_4]
  refine fg_ap (fun x_32 => ?_)
  exact fv_rt rfl

def w_X12_tableAt_c2 : wS := ([], [], [], [], [])
theorem g_X12_tableAt_c2_f {a0 : Int32} {I : Nat → Int32} {J : Nat → Int64} {ri : Nat → Nat → Int32} {rj : Nat → Nat → Int64} {rq : Nat → Nat → Option Nat}  : FRG Prod.snd w_X12_tableAt_c2 (I, J, ri, rj, rq) (g_X12_tableAt_c2  a0 I J ri rj rq) := by
  rw [g_X12_tableAt_c2_e]
  refine fg_ap (fun x_2 => ?_)
  refine fg_ap (fun x_4 => ?_)
  refine fg_ap (fun x_6 => ?_)
  refine fg_ap (fun x_8 => ?_)
  refine fg_ap (fun x_10 => ?_)
  exact fv_rt rfl

def w_X12_reefGoes : wS := ([], [], [384], [], [])
theorem g_X12_reefGoes_K102_f {x_652 : Int32} {k_g_X12_reefGoes_L2 : (Int32) → (Nat → Nat → Int32) → vM} {I : Nat → Int32} {J : Nat → Int64} {rj : Nat → Nat → Int64} {rq : Nat → Nat → Option Nat} {ri_798 : Nat → Nat → Int32} (hk_g_X12_reefGoes_L2 : ∀ (x_652 : Int32) (ri_653 : Nat → Nat → Int32), FRG id w_X12_reefGoes (I, J, ri_653, rj, rq) (k_g_X12_reefGoes_L2 x_652 ri_653)) : FRG id w_X12_reefGoes (I, J, ri_798, rj, rq) (g_X12_reefGoes_K102 x_652 k_g_X12_reefGoes_L2 ri_798) := by
  rw [g_X12_reefGoes_K102_e]
  refine fg_ap (fun x_802 => ?_)
  exact hk_g_X12_reefGoes_L2 _ _
theorem g_X12_reefGoes_K86_f {x_652 : Int32} {k_g_X12_reefGoes_L2 : (Int32) → (Nat → Nat → Int32) → vM} {x_729 : Int32} {I : Nat → Int32} {J : Nat → Int64} {rj : Nat → Nat → Int64} {rq : Nat → Nat → Option Nat} {ri_779 : Nat → Nat → Int32} (hk_g_X12_reefGoes_L2 : ∀ (x_652 : Int32) (ri_653 : Nat → Nat → Int32), FRG id w_X12_reefGoes (I, J, ri_653, rj, rq) (k_g_X12_reefGoes_L2 x_652 ri_653)) : FRG id w_X12_reefGoes (I, J, ri_779, rj, rq) (g_X12_reefGoes_K86 x_652 k_g_X12_reefGoes_L2 x_729 ri_779) := by
  rw [g_X12_reefGoes_K86_e]
  refine fg_ap (fun x_791 => ?_)
  refine fg_if ?_ ?_
  · exact g_X12_reefGoes_K102_f hk_g_X12_reefGoes_L2
  · refine fg_ri rfl (fun r_813 => ?_)
    exact g_X12_reefGoes_K102_f hk_g_X12_reefGoes_L2
theorem g_X12_reefGoes_K63_f {x_652 : Int32} {ri_653 : Nat → Nat → Int32} {k_g_X12_reefGoes_L2 : (Int32) → (Nat → Nat → Int32) → vM} {x_729 : Int32} {x_731 : Int32} {I : Nat → Int32} {J : Nat → Int64} {rj : Nat → Nat → Int64} {rq : Nat → Nat → Option Nat} {x_748 : Int32} (hk_g_X12_reefGoes_L2 : ∀ (x_652 : Int32) (ri_653 : Nat → Nat → Int32), FRG id w_X12_reefGoes (I, J, ri_653, rj, rq) (k_g_X12_reefGoes_L2 x_652 ri_653)) : FRG id w_X12_reefGoes (I, J, ri_653, rj, rq) (g_X12_reefGoes_K63 x_652 ri_653 k_g_X12_reefGoes_L2 x_729 x_731 x_748) := by
  rw [g_X12_reefGoes_K63_e]
  refine fg_ap (fun x_770 => ?_)
  refine fg_ri rfl (fun r_771 => ?_)
  refine fg_ap (fun x_772 => ?_)
  refine fg_if ?_ ?_
  · exact g_X12_reefGoes_K86_f hk_g_X12_reefGoes_L2
  · refine fg_ri rfl (fun r_823 => ?_)
    exact g_X12_reefGoes_K86_f hk_g_X12_reefGoes_L2
theorem g_X12_reefGoes_L2_f {a0 : Int32} {I : Nat → Int32} {J : Nat → Int64} {ri : Nat → Nat → Int32} {rj : Nat → Nat → Int64} {rq : Nat → Nat → Option Nat}  : ∀ (n_708 : Nat) (x_652 : Int32) (ri_653 : Nat → Nat → Int32), FRG id w_X12_reefGoes (I, J, ri_653, rj, rq) (g_X12_reefGoes_L2 a0 I J ri rj rq n_708 x_652 ri_653) := by
  intro n_708
  induction n_708 with
  | zero => intros; exact fv_rt rfl
  | succ n_708 ih =>
    intro x_652 ri_653
    rw [g_X12_reefGoes_L2_e]
    refine fg_ap (fun y_715 => ?_)
    refine fg_if ?_ ?_
    · exact fv_rt rfl
    · refine fg_ap (fun x_725 => ?_)
      refine fg_ap (fun x_727 => ?_)
      refine fg_ap (fun x_729 => ?_)
      refine fg_ap (fun x_731 => ?_)
      refine fg_bI g_X12_tableAt_c2_f rfl (fun x_732 I_z1 J_z1 ri_z1 rj_z1 rq_z1 h_1 => ?_)
      rw [fe_I h_1, fe_J h_1, fe_ri h_1, fe_rj h_1, fe_rq h_1]
      refine fg_ap (fun x_739 => ?_)
      refine fg_if ?_ ?_
      · refine fg_ap (fun x_832 => ?_)
        refine fg_ap (fun x_833 => ?_)
        exact g_X12_reefGoes_K63_f ih
      · refine fg_ap (fun x_835 => ?_)
        exact g_X12_reefGoes_K63_f ih
theorem g_X12_reefGoes_f {a0 : Int32} {I : Nat → Int32} {J : Nat → Int64} {ri : Nat → Nat → Int32} {rj : Nat → Nat → Int64} {rq : Nat → Nat → Option Nat}  : FRG id w_X12_reefGoes (I, J, ri, rj, rq) (g_X12_reefGoes  a0 I J ri rj rq) := by
  rw [g_X12_reefGoes_e]
  exact g_X12_reefGoes_L2_f  _ _ _

def w_X12_tableAt_c3 : wS := ([], [], [], [], [])
theorem g_X12_tableAt_c3_f {a0 : Int32} {I : Nat → Int32} {J : Nat → Int64} {ri : Nat → Nat → Int32} {rj : Nat → Nat → Int64} {rq : Nat → Nat → Option Nat}  : FRG Prod.snd w_X12_tableAt_c3 (I, J, ri, rj, rq) (g_X12_tableAt_c3  a0 I J ri rj rq) := by
  rw [g_X12_tableAt_c3_e]
  refine fg_ap (fun x_2 => ?_)
  refine fg_ap (fun x_4 => ?_)
  refine fg_ap (fun x_6 => ?_)
  refine fg_ap (fun x_8 => ?_)
  refine fg_ap (fun x_10 => ?_)
  exact fv_rt rfl

def w_X12_cellAt_c0 : wS := ([], [], [], [], [])
theorem g_X12_cellAt_c0_f {a0 : Int32} {I : Nat → Int32} {J : Nat → Int64} {ri : Nat → Nat → Int32} {rj : Nat → Nat → Int64} {rq : Nat → Nat → Option Nat}  : FRG Prod.snd w_X12_cellAt_c0 (I, J, ri, rj, rq) (g_X12_cellAt_c0  a0 I J ri rj rq) := by
  rw [g_X12_cellAt_c0_e]
  refine fg_ap (fun x_2 => ?_)
  refine fg_ap (fun x_4 => ?_)
  refine fg_ap (fun x_6 => ?_)
  refine fg_ap (fun x_8 => ?_)
  exact fv_rt rfl

def w_X12_sandGoes : wS := ([], [], [384, 409], [], [])
theorem g_X12_sandGoes_K187_f {x_48979 : Int32} {k_g_X12_sandGoes_L67 : (Int32) → (Nat → Nat → Int32) → vM} {I : Nat → Int32} {J : Nat → Int64} {rj : Nat → Nat → Int64} {rq : Nat → Nat → Option Nat} {ri_49529 : Nat → Nat → Int32} (hk_g_X12_sandGoes_L67 : ∀ (x_48979 : Int32) (ri_48980 : Nat → Nat → Int32), FRG id w_X12_sandGoes (I, J, ri_48980, rj, rq) (k_g_X12_sandGoes_L67 x_48979 ri_48980)) : FRG id w_X12_sandGoes (I, J, ri_49529, rj, rq) (g_X12_sandGoes_K187 x_48979 k_g_X12_sandGoes_L67 ri_49529) := by
  rw [g_X12_sandGoes_K187_e]
  refine fg_ap (fun x_49533 => ?_)
  exact hk_g_X12_sandGoes_L67 _ _
theorem g_X12_sandGoes_K135_f {x_49409 : Int32} {y_43517 : Int32} {x_48979 : Int32} {k_g_X12_sandGoes_L67 : (Int32) → (Nat → Nat → Int32) → vM} {r_49264 : Nat → Nat → Int32} {I : Nat → Int32} {J : Nat → Int64} {rj : Nat → Nat → Int64} {rq : Nat → Nat → Option Nat} (hk_g_X12_sandGoes_L67 : ∀ (x_48979 : Int32) (ri_48980 : Nat → Nat → Int32), FRG id w_X12_sandGoes (I, J, ri_48980, rj, rq) (k_g_X12_sandGoes_L67 x_48979 ri_48980)) : FRG id w_X12_sandGoes (I, J, r_49264, rj, rq) (g_X12_sandGoes_K135 x_49409 y_43517 x_48979 k_g_X12_sandGoes_L67 r_49264 ) := by
  rw [g_X12_sandGoes_K135_e]
  refine fg_if ?_ ?_
  · refine fg_ap (fun x_49541 => ?_)
    refine fg_ap (fun x_49542 => ?_)
    refine fg_ap (fun x_49543 => ?_)
    refine fg_ri rfl (fun r_49544 => ?_)
    exact g_X12_sandGoes_K187_f hk_g_X12_sandGoes_L67
  · refine fg_ap (fun x_49548 => ?_)
    refine fg_ap (fun x_49550 => ?_)
    refine fg_ap (fun x_49552 => ?_)
    refine fg_ap (fun x_49554 => ?_)
    refine fg_ap (fun x_49555 => ?_)
    refine fg_ap (fun x_49556 => ?_)
    refine fg_ri rfl (fun r_49557 => ?_)
    exact g_X12_sandGoes_K187_f hk_g_X12_sandGoes_L67
theorem g_X12_sandGoes_L104_f {I : Nat → Int32} {J : Nat → Int64} {rj : Nat → Nat → Int64} {rq : Nat → Nat → Option Nat} {y_43517 : Int32} {x_48979 : Int32} {k_g_X12_sandGoes_L67 : (Int32) → (Nat → Nat → Int32) → vM} {r_49264 : Nat → Nat → Int32} (hk_g_X12_sandGoes_L67 : ∀ (x_48979 : Int32) (ri_48980 : Nat → Nat → Int32), FRG id w_X12_sandGoes (I, J, ri_48980, rj, rq) (k_g_X12_sandGoes_L67 x_48979 ri_48980)) : ∀ (n_49458 : Nat) (x_49409 : Int32), FRG id w_X12_sandGoes (I, J, r_49264, rj, rq) (g_X12_sandGoes_L104 I J rj rq y_43517 x_48979 k_g_X12_sandGoes_L67 r_49264 n_49458 x_49409) := by
  intro n_49458
  induction n_49458 with
  | zero => intros; exact fv_rt rfl
  | succ n_49458 ih =>
    intro x_49409
    rw [g_X12_sandGoes_L104_e]
    refine fg_if ?_ ?_
    · exact g_X12_sandGoes_K135_f hk_g_X12_sandGoes_L67
    · refine fg_bI g_X12_cellAt_c0_f rfl (fun x_49567 I_z1 J_z1 ri_z1 rj_z1 rq_z1 h_1 => ?_)
      rw [fe_I h_1, fe_J h_1, fe_ri h_1, fe_rj h_1, fe_rq h_1]
      refine fg_bI g_X12_cellAt_c0_f rfl (fun x_49574 I_z2 J_z2 ri_z2 rj_z2 rq_z2 h_2 => ?_)
      rw [fe_I h_2, fe_J h_2, fe_ri h_2, fe_rj h_2, fe_rq h_2]
      refine fg_if ?_ ?_
      · exact g_X12_sandGoes_K135_f hk_g_X12_sandGoes_L67
      · refine fg_ap (fun x_49586 => ?_)
        exact ih _
theorem g_X12_sandGoes_L67_f {I : Nat → Int32} {J : Nat → Int64} {rj : Nat → Nat → Int64} {rq : Nat → Nat → Option Nat} {y_43517 : Int32}  : ∀ (n_49240 : Nat) (x_48979 : Int32) (ri_48980 : Nat → Nat → Int32), FRG id w_X12_sandGoes (I, J, ri_48980, rj, rq) (g_X12_sandGoes_L67 I J rj rq y_43517 n_49240 x_48979 ri_48980) := by
  intro n_49240
  induction n_49240 with
  | zero => intros; exact fv_rt rfl
  | succ n_49240 ih =>
    intro x_48979 ri_48980
    rw [g_X12_sandGoes_L67_e]
    refine fg_if ?_ ?_
    · exact fv_rt rfl
    · refine fg_ap (fun x_49254 => ?_)
      refine fg_ap (fun x_49256 => ?_)
      refine fg_ap (fun x_49258 => ?_)
      refine fg_ap (fun x_49260 => ?_)
      refine fg_ap (fun x_49262 => ?_)
      refine fg_ap (fun x_49263 => ?_)
      refine fg_ri rfl (fun r_49264 => ?_)
      refine fg_ap (fun x_49265 => ?_)
      exact g_X12_sandGoes_L104_f ih _ _
theorem g_X12_sandGoes_K58_f {x_37480 : Int32} {ri_37481 : Nat → Nat → Int32} {k_g_X12_sandGoes_L2 : (Int32) → (Nat → Nat → Int32) → vM} {I : Nat → Int32} {J : Nat → Int64} {rj : Nat → Nat → Int64} {rq : Nat → Nat → Option Nat} {x_49630 : Int32} (hk_g_X12_sandGoes_L2 : ∀ (x_37480 : Int32) (ri_37481 : Nat → Nat → Int32), FRG id w_X12_sandGoes (I, J, ri_37481, rj, rq) (k_g_X12_sandGoes_L2 x_37480 ri_37481)) : FRG id w_X12_sandGoes (I, J, ri_37481, rj, rq) (g_X12_sandGoes_K58 x_37480 ri_37481 k_g_X12_sandGoes_L2 x_49630) := by
  rw [g_X12_sandGoes_K58_e]
  refine fg_ri rfl (fun r_49635 => ?_)
  refine fg_ap (fun x_49636 => ?_)
  exact hk_g_X12_sandGoes_L2 _ _
theorem g_X12_sandGoes_L2_f {a0 : Int32} {I : Nat → Int32} {J : Nat → Int64} {ri : Nat → Nat → Int32} {rj : Nat → Nat → Int64} {rq : Nat → Nat → Option Nat}  : ∀ (n_43510 : Nat) (x_37480 : Int32) (ri_37481 : Nat → Nat → Int32), FRG id w_X12_sandGoes (I, J, ri_37481, rj, rq) (g_X12_sandGoes_L2 a0 I J ri rj rq n_43510 x_37480 ri_37481) := by
  intro n_43510
  induction n_43510 with
  | zero => intros; exact fv_rt rfl
  | succ n_43510 ih =>
    intro x_37480 ri_37481
    rw [g_X12_sandGoes_L2_e]
    refine fg_ap (fun y_43517 => ?_)
    refine fg_if ?_ ?_
    · exact g_X12_sandGoes_L67_f  _ _ _
    · refine fg_bI g_X12_tableAt_c3_f rfl (fun x_49591 I_z3 J_z3 ri_z3 rj_z3 rq_z3 h_3 => ?_)
      rw [fe_I h_3, fe_J h_3, fe_ri h_3, fe_rj h_3, fe_rq h_3]
      refine fg_bI g_X12_cellAt_c6_f rfl (fun x_49599 I_z4 J_z4 ri_z4 rj_z4 rq_z4 h_4 => ?_)
      rw [fe_I h_4, fe_J h_4, fe_ri h_4, fe_rj h_4, fe_rq h_4]
      refine fg_if ?_ ?_
      · refine fg_bI g_X12_cellAt_c4_f rfl (fun x_49645 I_z5 J_z5 ri_z5 rj_z5 rq_z5 h_5 => ?_)
        rw [fe_I h_5, fe_J h_5, fe_ri h_5, fe_rj h_5, fe_rq h_5]
        refine fg_if ?_ ?_
        · exact g_X12_sandGoes_K58_f ih
        · refine fg_bI g_X12_cellAt_c4_f rfl (fun x_49661 I_z6 J_z6 ri_z6 rj_z6 rq_z6 h_6 => ?_)
          rw [fe_I h_6, fe_J h_6, fe_ri h_6, fe_rj h_6, fe_rq h_6]
          exact g_X12_sandGoes_K58_f ih
      · exact g_X12_sandGoes_K58_f ih
theorem g_X12_sandGoes_f {a0 : Int32} {I : Nat → Int32} {J : Nat → Int64} {ri : Nat → Nat → Int32} {rj : Nat → Nat → Int64} {rq : Nat → Nat → Option Nat}  : FRG id w_X12_sandGoes (I, J, ri, rj, rq) (g_X12_sandGoes  a0 I J ri rj rq) := by
  rw [g_X12_sandGoes_e]
  exact g_X12_sandGoes_L2_f  _ _ _

def w_X12_tableAt_c1 : wS := ([], [], [], [], [])
theorem g_X12_tableAt_c1_f {a0 : Int32} {I : Nat → Int32} {J : Nat → Int64} {ri : Nat → Nat → Int32} {rj : Nat → Nat → Int64} {rq : Nat → Nat → Option Nat}  : FRG Prod.snd w_X12_tableAt_c1 (I, J, ri, rj, rq) (g_X12_tableAt_c1  a0 I J ri rj rq) := by
  rw [g_X12_tableAt_c1_e]
  refine fg_ap (fun x_2 => ?_)
  refine fg_ap (fun x_4 => ?_)
  refine fg_ap (fun x_6 => ?_)
  refine fg_ap (fun x_8 => ?_)
  refine fg_ap (fun x_10 => ?_)
  exact fv_rt rfl

def w_X12_tableAt_c0 : wS := ([], [], [], [], [])
theorem g_X12_tableAt_c0_f {a0 : Int32} {I : Nat → Int32} {J : Nat → Int64} {ri : Nat → Nat → Int32} {rj : Nat → Nat → Int64} {rq : Nat → Nat → Option Nat}  : FRG Prod.snd w_X12_tableAt_c0 (I, J, ri, rj, rq) (g_X12_tableAt_c0  a0 I J ri rj rq) := by
  rw [g_X12_tableAt_c0_e]
  refine fg_ap (fun x_2 => ?_)
  refine fg_ap (fun x_4 => ?_)
  refine fg_ap (fun x_6 => ?_)
  refine fg_ap (fun x_8 => ?_)
  refine fg_ap (fun x_10 => ?_)
  exact fv_rt rfl

def w_X12_tableAt_c4 : wS := ([], [], [], [], [])
theorem g_X12_tableAt_c4_f {a0 : Int32} {I : Nat → Int32} {J : Nat → Int64} {ri : Nat → Nat → Int32} {rj : Nat → Nat → Int64} {rq : Nat → Nat → Option Nat}  : FRG Prod.snd w_X12_tableAt_c4 (I, J, ri, rj, rq) (g_X12_tableAt_c4  a0 I J ri rj rq) := by
  rw [g_X12_tableAt_c4_e]
  refine fg_ap (fun x_2 => ?_)
  refine fg_ap (fun x_4 => ?_)
  refine fg_ap (fun x_6 => ?_)
  refine fg_ap (fun x_8 => ?_)
  refine fg_ap (fun x_10 => ?_)
  exact fv_rt rfl

def w_X12_seaStands : wS := ([], [], [384], [], [])
theorem g_X12_seaStands_K360_f {x_4567 : Int32} {x_4568 : Int32} {x_4569 : Int32} {k_g_X12_seaStands_L8 : (Int32) → (Int32) → (Int32) → (Nat → Nat → Int32) → vM} {I : Nat → Int32} {J : Nat → Int64} {rj : Nat → Nat → Int64} {rq : Nat → Nat → Option Nat} {ri_5723 : Nat → Nat → Int32} (hk_g_X12_seaStands_L8 : ∀ (x_4567 : Int32) (x_4568 : Int32) (x_4569 : Int32) (ri_4570 : Nat → Nat → Int32), FRG id w_X12_seaStands (I, J, ri_4570, rj, rq) (k_g_X12_seaStands_L8 x_4567 x_4568 x_4569 ri_4570)) : FRG id w_X12_seaStands (I, J, ri_5723, rj, rq) (g_X12_seaStands_K360 x_4567 x_4568 x_4569 k_g_X12_seaStands_L8 ri_5723) := by
  rw [g_X12_seaStands_K360_e]
  refine fg_ap (fun x_5727 => ?_)
  exact hk_g_X12_seaStands_L8 _ _ _ _
theorem g_X12_seaStands_K359_f {x_4567 : Int32} {x_4568 : Int32} {x_4569 : Int32} {k_g_X12_seaStands_L8 : (Int32) → (Int32) → (Int32) → (Nat → Nat → Int32) → vM} {ri_5670 : Nat → Nat → Int32} {x_5735 : Int32} {I : Nat → Int32} {J : Nat → Int64} {rj : Nat → Nat → Int64} {rq : Nat → Nat → Option Nat} {x_5749 : Int32} (hk_g_X12_seaStands_L8 : ∀ (x_4567 : Int32) (x_4568 : Int32) (x_4569 : Int32) (ri_4570 : Nat → Nat → Int32), FRG id w_X12_seaStands (I, J, ri_4570, rj, rq) (k_g_X12_seaStands_L8 x_4567 x_4568 x_4569 ri_4570)) : FRG id w_X12_seaStands (I, J, ri_5670, rj, rq) (g_X12_seaStands_K359 x_4567 x_4568 x_4569 k_g_X12_seaStands_L8 ri_5670 x_5735 x_5749) := by
  rw [g_X12_seaStands_K359_e]
  refine fg_ri rfl (fun r_5752 => ?_)
  exact g_X12_seaStands_K360_f hk_g_X12_seaStands_L8
theorem g_X12_seaStands_K207_f {x_4567 : Int32} {x_4568 : Int32} {x_4569 : Int32} {k_g_X12_seaStands_L8 : (Int32) → (Int32) → (Int32) → (Nat → Nat → Int32) → vM} {x_4966 : Int32} {I : Nat → Int32} {J : Nat → Int64} {rj : Nat → Nat → Int64} {rq : Nat → Nat → Option Nat} {ri_5670 : Nat → Nat → Int32} (hk_g_X12_seaStands_L8 : ∀ (x_4567 : Int32) (x_4568 : Int32) (x_4569 : Int32) (ri_4570 : Nat → Nat → Int32), FRG id w_X12_seaStands (I, J, ri_4570, rj, rq) (k_g_X12_seaStands_L8 x_4567 x_4568 x_4569 ri_4570)) : FRG id w_X12_seaStands (I, J, ri_5670, rj, rq) (g_X12_seaStands_K207 x_4567 x_4568 x_4569 k_g_X12_seaStands_L8 x_4966 ri_5670) := by
  rw [g_X12_seaStands_K207_e]
  refine fg_ap (fun x_5699 => ?_)
  refine fg_ap (fun x_5701 => ?_)
  refine fg_if ?_ ?_
  · exact g_X12_seaStands_K360_f hk_g_X12_seaStands_L8
  · refine fg_ap (fun x_5735 => ?_)
    refine fg_ap (fun x_5737 => ?_)
    refine fg_ap (fun x_5739 => ?_)
    refine fg_if ?_ ?_
    · refine fg_ap (fun x_5760 => ?_)
      refine fg_ap (fun x_5762 => ?_)
      refine fg_ap (fun x_5763 => ?_)
      exact g_X12_seaStands_K359_f hk_g_X12_seaStands_L8
    · exact g_X12_seaStands_K359_f hk_g_X12_seaStands_L8
theorem g_X12_seaStands_K191_f {x_4567 : Int32} {x_4568 : Int32} {x_4569 : Int32} {k_g_X12_seaStands_L8 : (Int32) → (Int32) → (Int32) → (Nat → Nat → Int32) → vM} {x_4966 : Int32} {r_5596 : Nat → Nat → Int32} {I : Nat → Int32} {J : Nat → Int64} {rj : Nat → Nat → Int64} {rq : Nat → Nat → Option Nat} (hk_g_X12_seaStands_L8 : ∀ (x_4567 : Int32) (x_4568 : Int32) (x_4569 : Int32) (ri_4570 : Nat → Nat → Int32), FRG id w_X12_seaStands (I, J, ri_4570, rj, rq) (k_g_X12_seaStands_L8 x_4567 x_4568 x_4569 ri_4570)) : FRG id w_X12_seaStands (I, J, r_5596, rj, rq) (g_X12_seaStands_K191 x_4567 x_4568 x_4569 k_g_X12_seaStands_L8 x_4966 r_5596 ) := by
  rw [g_X12_seaStands_K191_e]
  refine fg_ap (fun x_5769 => ?_)
  refine fg_ri rfl (fun r_5771 => ?_)
  exact g_X12_seaStands_K207_f hk_g_X12_seaStands_L8
theorem g_X12_seaStands_K167_f {x_4567 : Int32} {x_4568 : Int32} {x_4569 : Int32} {k_g_X12_seaStands_L8 : (Int32) → (Int32) → (Int32) → (Nat → Nat → Int32) → vM} {x_4966 : Int32} {r_5596 : Nat → Nat → Int32} {I : Nat → Int32} {J : Nat → Int64} {rj : Nat → Nat → Int64} {rq : Nat → Nat → Option Nat} (hk_g_X12_seaStands_L8 : ∀ (x_4567 : Int32) (x_4568 : Int32) (x_4569 : Int32) (ri_4570 : Nat → Nat → Int32), FRG id w_X12_seaStands (I, J, ri_4570, rj, rq) (k_g_X12_seaStands_L8 x_4567 x_4568 x_4569 ri_4570)) : FRG id w_X12_seaStands (I, J, r_5596, rj, rq) (g_X12_seaStands_K167 x_4567 x_4568 x_4569 k_g_X12_seaStands_L8 x_4966 r_5596 ) := by
  rw [g_X12_seaStands_K167_e]
  exact g_X12_seaStands_K191_f hk_g_X12_seaStands_L8
theorem g_X12_seaStands_K147_f {x_4567 : Int32} {x_4568 : Int32} {x_4569 : Int32} {k_g_X12_seaStands_L8 : (Int32) → (Int32) → (Int32) → (Nat → Nat → Int32) → vM} {x_4966 : Int32} {r_5551 : Nat → Nat → Int32} {x_5552 : Int32} {I : Nat → Int32} {J : Nat → Int64} {rj : Nat → Nat → Int64} {rq : Nat → Nat → Option Nat} {x_5559 : Int32} (hk_g_X12_seaStands_L8 : ∀ (x_4567 : Int32) (x_4568 : Int32) (x_4569 : Int32) (ri_4570 : Nat → Nat → Int32), FRG id w_X12_seaStands (I, J, ri_4570, rj, rq) (k_g_X12_seaStands_L8 x_4567 x_4568 x_4569 ri_4570)) : FRG id w_X12_seaStands (I, J, r_5551, rj, rq) (g_X12_seaStands_K147 x_4567 x_4568 x_4569 k_g_X12_seaStands_L8 x_4966 r_5551 x_5552 x_5559) := by
  rw [g_X12_seaStands_K147_e]
  refine fg_ri rfl (fun r_5596 => ?_)
  exact g_X12_seaStands_K167_f hk_g_X12_seaStands_L8
theorem g_X12_seaStands_K116_f {x_4567 : Int32} {x_4568 : Int32} {x_4569 : Int32} {k_g_X12_seaStands_L8 : (Int32) → (Int32) → (Int32) → (Nat → Nat → Int32) → vM} {x_4966 : Int32} {r_5502 : Nat → Nat → Int32} {x_5503 : Int32} {I : Nat → Int32} {J : Nat → Int64} {rj : Nat → Nat → Int64} {rq : Nat → Nat → Option Nat} (hk_g_X12_seaStands_L8 : ∀ (x_4567 : Int32) (x_4568 : Int32) (x_4569 : Int32) (ri_4570 : Nat → Nat → Int32), FRG id w_X12_seaStands (I, J, ri_4570, rj, rq) (k_g_X12_seaStands_L8 x_4567 x_4568 x_4569 ri_4570)) : FRG id w_X12_seaStands (I, J, r_5502, rj, rq) (g_X12_seaStands_K116 x_4567 x_4568 x_4569 k_g_X12_seaStands_L8 x_4966 r_5502 x_5503 ) := by
  rw [g_X12_seaStands_K116_e]
  refine fg_ri rfl (fun r_5551 => ?_)
  refine fg_ap (fun x_5552 => ?_)
  refine fg_ap (fun x_5775 => ?_)
  refine fg_ap (fun x_5777 => ?_)
  refine fg_ap (fun x_5778 => ?_)
  exact g_X12_seaStands_K147_f hk_g_X12_seaStands_L8
theorem g_X12_seaStands_K96_f {x_4567 : Int32} {x_4568 : Int32} {x_4569 : Int32} {ri_4570 : Nat → Nat → Int32} {k_g_X12_seaStands_L8 : (Int32) → (Int32) → (Int32) → (Nat → Nat → Int32) → vM} {x_4966 : Int32} {x_5450 : Int32} {I : Nat → Int32} {J : Nat → Int64} {rj : Nat → Nat → Int64} {rq : Nat → Nat → Option Nat} (hk_g_X12_seaStands_L8 : ∀ (x_4567 : Int32) (x_4568 : Int32) (x_4569 : Int32) (ri_4570 : Nat → Nat → Int32), FRG id w_X12_seaStands (I, J, ri_4570, rj, rq) (k_g_X12_seaStands_L8 x_4567 x_4568 x_4569 ri_4570)) : FRG id w_X12_seaStands (I, J, ri_4570, rj, rq) (g_X12_seaStands_K96 x_4567 x_4568 x_4569 ri_4570 k_g_X12_seaStands_L8 x_4966 x_5450 ) := by
  rw [g_X12_seaStands_K96_e]
  refine fg_ri rfl (fun r_5502 => ?_)
  refine fg_ap (fun x_5503 => ?_)
  exact g_X12_seaStands_K116_f hk_g_X12_seaStands_L8
theorem g_X12_seaStands_K75_f {x_4567 : Int32} {x_4568 : Int32} {x_4569 : Int32} {ri_4570 : Nat → Nat → Int32} {k_g_X12_seaStands_L8 : (Int32) → (Int32) → (Int32) → (Nat → Nat → Int32) → vM} {x_4966 : Int32} {I : Nat → Int32} {J : Nat → Int64} {rj : Nat → Nat → Int64} {rq : Nat → Nat → Option Nat} (hk_g_X12_seaStands_L8 : ∀ (x_4567 : Int32) (x_4568 : Int32) (x_4569 : Int32) (ri_4570 : Nat → Nat → Int32), FRG id w_X12_seaStands (I, J, ri_4570, rj, rq) (k_g_X12_seaStands_L8 x_4567 x_4568 x_4569 ri_4570)) : FRG id w_X12_seaStands (I, J, ri_4570, rj, rq) (g_X12_seaStands_K75 x_4567 x_4568 x_4569 ri_4570 k_g_X12_seaStands_L8 x_4966 ) := by
  rw [g_X12_seaStands_K75_e]
  refine fg_ap (fun x_5450 => ?_)
  exact g_X12_seaStands_K96_f hk_g_X12_seaStands_L8
theorem g_X12_seaStands_K360_2_f {x_4569 : Int32} {k_g_X12_seaStands_L8 : (Int32) → (Int32) → (Int32) → (Nat → Nat → Int32) → vM} {x_5995 : Int32} {x_6050 : Int32} {I : Nat → Int32} {J : Nat → Int64} {rj : Nat → Nat → Int64} {rq : Nat → Nat → Option Nat} {ri_6141 : Nat → Nat → Int32} (hk_g_X12_seaStands_L8 : ∀ (x_4567 : Int32) (x_4568 : Int32) (x_4569 : Int32) (ri_4570 : Nat → Nat → Int32), FRG id w_X12_seaStands (I, J, ri_4570, rj, rq) (k_g_X12_seaStands_L8 x_4567 x_4568 x_4569 ri_4570)) : FRG id w_X12_seaStands (I, J, ri_6141, rj, rq) (g_X12_seaStands_K360_2 x_4569 k_g_X12_seaStands_L8 x_5995 x_6050 ri_6141) := by
  rw [g_X12_seaStands_K360_2_e]
  refine fg_ap (fun x_6145 => ?_)
  exact hk_g_X12_seaStands_L8 _ _ _ _
theorem g_X12_seaStands_K359_2_f {x_4569 : Int32} {k_g_X12_seaStands_L8 : (Int32) → (Int32) → (Int32) → (Nat → Nat → Int32) → vM} {x_5995 : Int32} {x_6050 : Int32} {ri_6088 : Nat → Nat → Int32} {x_6153 : Int32} {I : Nat → Int32} {J : Nat → Int64} {rj : Nat → Nat → Int64} {rq : Nat → Nat → Option Nat} {x_6167 : Int32} (hk_g_X12_seaStands_L8 : ∀ (x_4567 : Int32) (x_4568 : Int32) (x_4569 : Int32) (ri_4570 : Nat → Nat → Int32), FRG id w_X12_seaStands (I, J, ri_4570, rj, rq) (k_g_X12_seaStands_L8 x_4567 x_4568 x_4569 ri_4570)) : FRG id w_X12_seaStands (I, J, ri_6088, rj, rq) (g_X12_seaStands_K359_2 x_4569 k_g_X12_seaStands_L8 x_5995 x_6050 ri_6088 x_6153 x_6167) := by
  rw [g_X12_seaStands_K359_2_e]
  refine fg_ri rfl (fun r_6170 => ?_)
  exact g_X12_seaStands_K360_2_f hk_g_X12_seaStands_L8
theorem g_X12_seaStands_K207_2_f {x_4569 : Int32} {k_g_X12_seaStands_L8 : (Int32) → (Int32) → (Int32) → (Nat → Nat → Int32) → vM} {x_4966 : Int32} {x_5995 : Int32} {x_6050 : Int32} {I : Nat → Int32} {J : Nat → Int64} {rj : Nat → Nat → Int64} {rq : Nat → Nat → Option Nat} {ri_6088 : Nat → Nat → Int32} (hk_g_X12_seaStands_L8 : ∀ (x_4567 : Int32) (x_4568 : Int32) (x_4569 : Int32) (ri_4570 : Nat → Nat → Int32), FRG id w_X12_seaStands (I, J, ri_4570, rj, rq) (k_g_X12_seaStands_L8 x_4567 x_4568 x_4569 ri_4570)) : FRG id w_X12_seaStands (I, J, ri_6088, rj, rq) (g_X12_seaStands_K207_2 x_4569 k_g_X12_seaStands_L8 x_4966 x_5995 x_6050 ri_6088) := by
  rw [g_X12_seaStands_K207_2_e]
  refine fg_ap (fun x_6117 => ?_)
  refine fg_ap (fun x_6119 => ?_)
  refine fg_if ?_ ?_
  · exact g_X12_seaStands_K360_2_f hk_g_X12_seaStands_L8
  · refine fg_ap (fun x_6153 => ?_)
    refine fg_ap (fun x_6155 => ?_)
    refine fg_ap (fun x_6157 => ?_)
    refine fg_if ?_ ?_
    · refine fg_ap (fun x_6178 => ?_)
      refine fg_ap (fun x_6180 => ?_)
      refine fg_ap (fun x_6181 => ?_)
      exact g_X12_seaStands_K359_2_f hk_g_X12_seaStands_L8
    · exact g_X12_seaStands_K359_2_f hk_g_X12_seaStands_L8
theorem g_X12_seaStands_K191_2_f {x_4569 : Int32} {k_g_X12_seaStands_L8 : (Int32) → (Int32) → (Int32) → (Nat → Nat → Int32) → vM} {x_4966 : Int32} {r_5986 : Nat → Nat → Int32} {x_5995 : Int32} {I : Nat → Int32} {J : Nat → Int64} {rj : Nat → Nat → Int64} {rq : Nat → Nat → Option Nat} {x_6050 : Int32} (hk_g_X12_seaStands_L8 : ∀ (x_4567 : Int32) (x_4568 : Int32) (x_4569 : Int32) (ri_4570 : Nat → Nat → Int32), FRG id w_X12_seaStands (I, J, ri_4570, rj, rq) (k_g_X12_seaStands_L8 x_4567 x_4568 x_4569 ri_4570)) : FRG id w_X12_seaStands (I, J, r_5986, rj, rq) (g_X12_seaStands_K191_2 x_4569 k_g_X12_seaStands_L8 x_4966 r_5986 x_5995 x_6050) := by
  rw [g_X12_seaStands_K191_2_e]
  refine fg_ap (fun x_6187 => ?_)
  refine fg_ri rfl (fun r_6189 => ?_)
  exact g_X12_seaStands_K207_2_f hk_g_X12_seaStands_L8
theorem g_X12_seaStands_K167_2_f {x_4568 : Int32} {x_4569 : Int32} {k_g_X12_seaStands_L8 : (Int32) → (Int32) → (Int32) → (Nat → Nat → Int32) → vM} {x_4966 : Int32} {r_5986 : Nat → Nat → Int32} {I : Nat → Int32} {J : Nat → Int64} {rj : Nat → Nat → Int64} {rq : Nat → Nat → Option Nat} {x_5995 : Int32} (hk_g_X12_seaStands_L8 : ∀ (x_4567 : Int32) (x_4568 : Int32) (x_4569 : Int32) (ri_4570 : Nat → Nat → Int32), FRG id w_X12_seaStands (I, J, ri_4570, rj, rq) (k_g_X12_seaStands_L8 x_4567 x_4568 x_4569 ri_4570)) : FRG id w_X12_seaStands (I, J, r_5986, rj, rq) (g_X12_seaStands_K167_2 x_4568 x_4569 k_g_X12_seaStands_L8 x_4966 r_5986 x_5995) := by
  rw [g_X12_seaStands_K167_2_e]
  refine fg_if ?_ ?_
  · exact g_X12_seaStands_K191_2_f hk_g_X12_seaStands_L8
  · refine fg_ap (fun x_6200 => ?_)
    refine fg_ap (fun x_6202 => ?_)
    refine fg_ap (fun x_6203 => ?_)
    exact g_X12_seaStands_K191_2_f hk_g_X12_seaStands_L8
theorem g_X12_seaStands_K147_2_f {x_4567 : Int32} {x_4568 : Int32} {x_4569 : Int32} {k_g_X12_seaStands_L8 : (Int32) → (Int32) → (Int32) → (Nat → Nat → Int32) → vM} {x_4966 : Int32} {r_5923 : Nat → Nat → Int32} {x_5924 : Int32} {I : Nat → Int32} {J : Nat → Int64} {rj : Nat → Nat → Int64} {rq : Nat → Nat → Option Nat} {x_5931 : Int32} (hk_g_X12_seaStands_L8 : ∀ (x_4567 : Int32) (x_4568 : Int32) (x_4569 : Int32) (ri_4570 : Nat → Nat → Int32), FRG id w_X12_seaStands (I, J, ri_4570, rj, rq) (k_g_X12_seaStands_L8 x_4567 x_4568 x_4569 ri_4570)) : FRG id w_X12_seaStands (I, J, r_5923, rj, rq) (g_X12_seaStands_K147_2 x_4567 x_4568 x_4569 k_g_X12_seaStands_L8 x_4966 r_5923 x_5924 x_5931) := by
  rw [g_X12_seaStands_K147_2_e]
  refine fg_ri rfl (fun r_5986 => ?_)
  refine fg_if ?_ ?_
  · exact g_X12_seaStands_K167_2_f hk_g_X12_seaStands_L8
  · refine fg_ap (fun x_6214 => ?_)
    refine fg_ap (fun x_6215 => ?_)
    exact g_X12_seaStands_K167_2_f hk_g_X12_seaStands_L8
theorem g_X12_seaStands_K116_2_f {x_4567 : Int32} {x_4568 : Int32} {x_4569 : Int32} {k_g_X12_seaStands_L8 : (Int32) → (Int32) → (Int32) → (Nat → Nat → Int32) → vM} {x_4966 : Int32} {r_5856 : Nat → Nat → Int32} {x_5857 : Int32} {I : Nat → Int32} {J : Nat → Int64} {rj : Nat → Nat → Int64} {rq : Nat → Nat → Option Nat} (hk_g_X12_seaStands_L8 : ∀ (x_4567 : Int32) (x_4568 : Int32) (x_4569 : Int32) (ri_4570 : Nat → Nat → Int32), FRG id w_X12_seaStands (I, J, ri_4570, rj, rq) (k_g_X12_seaStands_L8 x_4567 x_4568 x_4569 ri_4570)) : FRG id w_X12_seaStands (I, J, r_5856, rj, rq) (g_X12_seaStands_K116_2 x_4567 x_4568 x_4569 k_g_X12_seaStands_L8 x_4966 r_5856 x_5857 ) := by
  rw [g_X12_seaStands_K116_2_e]
  refine fg_ri rfl (fun r_5923 => ?_)
  refine fg_ap (fun x_5924 => ?_)
  refine fg_ap (fun x_6217 => ?_)
  refine fg_ap (fun x_6219 => ?_)
  refine fg_ap (fun x_6220 => ?_)
  exact g_X12_seaStands_K147_2_f hk_g_X12_seaStands_L8
theorem g_X12_seaStands_K96_2_f {x_4567 : Int32} {x_4568 : Int32} {x_4569 : Int32} {ri_4570 : Nat → Nat → Int32} {k_g_X12_seaStands_L8 : (Int32) → (Int32) → (Int32) → (Nat → Nat → Int32) → vM} {x_4966 : Int32} {x_5786 : Int32} {I : Nat → Int32} {J : Nat → Int64} {rj : Nat → Nat → Int64} {rq : Nat → Nat → Option Nat} (hk_g_X12_seaStands_L8 : ∀ (x_4567 : Int32) (x_4568 : Int32) (x_4569 : Int32) (ri_4570 : Nat → Nat → Int32), FRG id w_X12_seaStands (I, J, ri_4570, rj, rq) (k_g_X12_seaStands_L8 x_4567 x_4568 x_4569 ri_4570)) : FRG id w_X12_seaStands (I, J, ri_4570, rj, rq) (g_X12_seaStands_K96_2 x_4567 x_4568 x_4569 ri_4570 k_g_X12_seaStands_L8 x_4966 x_5786 ) := by
  rw [g_X12_seaStands_K96_2_e]
  refine fg_ri rfl (fun r_5856 => ?_)
  refine fg_ap (fun x_5857 => ?_)
  exact g_X12_seaStands_K116_2_f hk_g_X12_seaStands_L8
theorem g_X12_seaStands_K75_2_f {x_4567 : Int32} {x_4568 : Int32} {x_4569 : Int32} {ri_4570 : Nat → Nat → Int32} {k_g_X12_seaStands_L8 : (Int32) → (Int32) → (Int32) → (Nat → Nat → Int32) → vM} {x_4966 : Int32} {I : Nat → Int32} {J : Nat → Int64} {rj : Nat → Nat → Int64} {rq : Nat → Nat → Option Nat} (hk_g_X12_seaStands_L8 : ∀ (x_4567 : Int32) (x_4568 : Int32) (x_4569 : Int32) (ri_4570 : Nat → Nat → Int32), FRG id w_X12_seaStands (I, J, ri_4570, rj, rq) (k_g_X12_seaStands_L8 x_4567 x_4568 x_4569 ri_4570)) : FRG id w_X12_seaStands (I, J, ri_4570, rj, rq) (g_X12_seaStands_K75_2 x_4567 x_4568 x_4569 ri_4570 k_g_X12_seaStands_L8 x_4966 ) := by
  rw [g_X12_seaStands_K75_2_e]
  refine fg_ap (fun x_5786 => ?_)
  exact g_X12_seaStands_K96_2_f hk_g_X12_seaStands_L8
theorem g_X12_seaStands_K51_f {a0 : Int32} {a1 : Int32} {I : Nat → Int32} {J : Nat → Int64} {rj : Nat → Nat → Int64} {rq : Nat → Nat → Option Nat} {x_4567 : Int32} {x_4568 : Int32} {x_4569 : Int32} {ri_4570 : Nat → Nat → Int32} {k_g_X12_seaStands_L8 : (Int32) → (Int32) → (Int32) → (Nat → Nat → Int32) → vM} {x_4966 : Int32} (hk_g_X12_seaStands_L8 : ∀ (x_4567 : Int32) (x_4568 : Int32) (x_4569 : Int32) (ri_4570 : Nat → Nat → Int32), FRG id w_X12_seaStands (I, J, ri_4570, rj, rq) (k_g_X12_seaStands_L8 x_4567 x_4568 x_4569 ri_4570)) : FRG id w_X12_seaStands (I, J, ri_4570, rj, rq) (g_X12_seaStands_K51 a0 a1 I J rj rq x_4567 x_4568 x_4569 ri_4570 k_g_X12_seaStands_L8 x_4966 ) := by
  rw [g_X12_seaStands_K51_e]
  refine fg_bI g_X12_topOf_f rfl (fun x_5307 I_z1 J_z1 ri_z1 rj_z1 rq_z1 h_1 => ?_)
  rw [fe_I h_1, fe_J h_1, fe_ri h_1, fe_rj h_1, fe_rq h_1]
  refine fg_bI g_X12_tableAt_c0_f rfl (fun x_5314 I_z2 J_z2 ri_z2 rj_z2 rq_z2 h_2 => ?_)
  rw [fe_I h_2, fe_J h_2, fe_ri h_2, fe_rj h_2, fe_rq h_2]
  refine fg_ap (fun x_5321 => ?_)
  refine fg_if ?_ ?_
  · exact g_X12_seaStands_K75_f hk_g_X12_seaStands_L8
  · exact g_X12_seaStands_K75_2_f hk_g_X12_seaStands_L8
theorem g_X12_seaStands_K360_3_f {x_4567 : Int32} {x_4568 : Int32} {x_4569 : Int32} {k_g_X12_seaStands_L8 : (Int32) → (Int32) → (Int32) → (Nat → Nat → Int32) → vM} {I : Nat → Int32} {J : Nat → Int64} {rj : Nat → Nat → Int64} {rq : Nat → Nat → Option Nat} {ri_6821 : Nat → Nat → Int32} (hk_g_X12_seaStands_L8 : ∀ (x_4567 : Int32) (x_4568 : Int32) (x_4569 : Int32) (ri_4570 : Nat → Nat → Int32), FRG id w_X12_seaStands (I, J, ri_4570, rj, rq) (k_g_X12_seaStands_L8 x_4567 x_4568 x_4569 ri_4570)) : FRG id w_X12_seaStands (I, J, ri_6821, rj, rq) (g_X12_seaStands_K360_3 x_4567 x_4568 x_4569 k_g_X12_seaStands_L8 ri_6821) := by
  rw [g_X12_seaStands_K360_3_e]
  refine fg_ap (fun x_6825 => ?_)
  exact hk_g_X12_seaStands_L8 _ _ _ _
theorem g_X12_seaStands_K287_f {x_4567 : Int32} {x_4568 : Int32} {x_4569 : Int32} {k_g_X12_seaStands_L8 : (Int32) → (Int32) → (Int32) → (Nat → Nat → Int32) → vM} {x_4966 : Int32} {I : Nat → Int32} {J : Nat → Int64} {rj : Nat → Nat → Int64} {rq : Nat → Nat → Option Nat} {ri_6860 : Nat → Nat → Int32} (hk_g_X12_seaStands_L8 : ∀ (x_4567 : Int32) (x_4568 : Int32) (x_4569 : Int32) (ri_4570 : Nat → Nat → Int32), FRG id w_X12_seaStands (I, J, ri_4570, rj, rq) (k_g_X12_seaStands_L8 x_4567 x_4568 x_4569 ri_4570)) : FRG id w_X12_seaStands (I, J, ri_6860, rj, rq) (g_X12_seaStands_K287 x_4567 x_4568 x_4569 k_g_X12_seaStands_L8 x_4966 ri_6860) := by
  rw [g_X12_seaStands_K287_e]
  refine fg_ap (fun x_6875 => ?_)
  refine fg_ap (fun x_6877 => ?_)
  refine fg_if ?_ ?_
  · exact g_X12_seaStands_K360_3_f hk_g_X12_seaStands_L8
  · refine fg_ap (fun x_6887 => ?_)
    refine fg_ap (fun x_6889 => ?_)
    refine fg_ap (fun x_6890 => ?_)
    refine fg_ri rfl (fun r_6891 => ?_)
    exact g_X12_seaStands_K360_3_f hk_g_X12_seaStands_L8
theorem g_X12_seaStands_K207_3_f {a0 : Int32} {I : Nat → Int32} {J : Nat → Int64} {rj : Nat → Nat → Int64} {rq : Nat → Nat → Option Nat} {x_4567 : Int32} {x_4568 : Int32} {x_4569 : Int32} {k_g_X12_seaStands_L8 : (Int32) → (Int32) → (Int32) → (Nat → Nat → Int32) → vM} {x_4966 : Int32} {r_6606 : Nat → Nat → Int32} (hk_g_X12_seaStands_L8 : ∀ (x_4567 : Int32) (x_4568 : Int32) (x_4569 : Int32) (ri_4570 : Nat → Nat → Int32), FRG id w_X12_seaStands (I, J, ri_4570, rj, rq) (k_g_X12_seaStands_L8 x_4567 x_4568 x_4569 ri_4570)) : FRG id w_X12_seaStands (I, J, r_6606, rj, rq) (g_X12_seaStands_K207_3 a0 I J rj rq x_4567 x_4568 x_4569 k_g_X12_seaStands_L8 x_4966 r_6606 ) := by
  rw [g_X12_seaStands_K207_3_e]
  refine fg_ap (fun x_6772 => ?_)
  refine fg_ap (fun x_6774 => ?_)
  refine fg_if ?_ ?_
  · exact g_X12_seaStands_K360_3_f hk_g_X12_seaStands_L8
  · refine fg_ap (fun x_6833 => ?_)
    refine fg_ap (fun x_6835 => ?_)
    refine fg_bI g_X12_tableAt_c4_f rfl (fun x_6836 I_z3 J_z3 ri_z3 rj_z3 rq_z3 h_3 => ?_)
    rw [fe_I h_3, fe_J h_3, fe_ri h_3, fe_rj h_3, fe_rq h_3]
    refine fg_ap (fun x_6843 => ?_)
    refine fg_ap (fun x_6845 => ?_)
    refine fg_ap (fun x_6846 => ?_)
    refine fg_ap (fun x_6847 => ?_)
    refine fg_ri rfl (fun r_6848 => ?_)
    refine fg_ap (fun x_6849 => ?_)
    refine fg_ap (fun x_6851 => ?_)
    refine fg_if ?_ ?_
    · exact g_X12_seaStands_K287_f hk_g_X12_seaStands_L8
    · refine fg_ap (fun x_6901 => ?_)
      refine fg_ri rfl (fun r_6903 => ?_)
      exact g_X12_seaStands_K287_f hk_g_X12_seaStands_L8
theorem g_X12_seaStands_K191_3_f {a0 : Int32} {I : Nat → Int32} {J : Nat → Int64} {rj : Nat → Nat → Int64} {rq : Nat → Nat → Option Nat} {x_4567 : Int32} {x_4568 : Int32} {x_4569 : Int32} {k_g_X12_seaStands_L8 : (Int32) → (Int32) → (Int32) → (Nat → Nat → Int32) → vM} {x_4966 : Int32} {r_6606 : Nat → Nat → Int32} (hk_g_X12_seaStands_L8 : ∀ (x_4567 : Int32) (x_4568 : Int32) (x_4569 : Int32) (ri_4570 : Nat → Nat → Int32), FRG id w_X12_seaStands (I, J, ri_4570, rj, rq) (k_g_X12_seaStands_L8 x_4567 x_4568 x_4569 ri_4570)) : FRG id w_X12_seaStands (I, J, r_6606, rj, rq) (g_X12_seaStands_K191_3 a0 I J rj rq x_4567 x_4568 x_4569 k_g_X12_seaStands_L8 x_4966 r_6606 ) := by
  rw [g_X12_seaStands_K191_3_e]
  exact g_X12_seaStands_K207_3_f hk_g_X12_seaStands_L8
theorem g_X12_seaStands_K167_3_f {a0 : Int32} {I : Nat → Int32} {J : Nat → Int64} {rj : Nat → Nat → Int64} {rq : Nat → Nat → Option Nat} {x_4567 : Int32} {x_4568 : Int32} {x_4569 : Int32} {k_g_X12_seaStands_L8 : (Int32) → (Int32) → (Int32) → (Nat → Nat → Int32) → vM} {x_4966 : Int32} {r_6606 : Nat → Nat → Int32} (hk_g_X12_seaStands_L8 : ∀ (x_4567 : Int32) (x_4568 : Int32) (x_4569 : Int32) (ri_4570 : Nat → Nat → Int32), FRG id w_X12_seaStands (I, J, ri_4570, rj, rq) (k_g_X12_seaStands_L8 x_4567 x_4568 x_4569 ri_4570)) : FRG id w_X12_seaStands (I, J, r_6606, rj, rq) (g_X12_seaStands_K167_3 a0 I J rj rq x_4567 x_4568 x_4569 k_g_X12_seaStands_L8 x_4966 r_6606 ) := by
  rw [g_X12_seaStands_K167_3_e]
  exact g_X12_seaStands_K191_3_f hk_g_X12_seaStands_L8
theorem g_X12_seaStands_K147_3_f {a0 : Int32} {I : Nat → Int32} {J : Nat → Int64} {rj : Nat → Nat → Int64} {rq : Nat → Nat → Option Nat} {x_4567 : Int32} {x_4568 : Int32} {x_4569 : Int32} {k_g_X12_seaStands_L8 : (Int32) → (Int32) → (Int32) → (Nat → Nat → Int32) → vM} {x_4966 : Int32} {r_6545 : Nat → Nat → Int32} {x_6546 : Int32} (hk_g_X12_seaStands_L8 : ∀ (x_4567 : Int32) (x_4568 : Int32) (x_4569 : Int32) (ri_4570 : Nat → Nat → Int32), FRG id w_X12_seaStands (I, J, ri_4570, rj, rq) (k_g_X12_seaStands_L8 x_4567 x_4568 x_4569 ri_4570)) : FRG id w_X12_seaStands (I, J, r_6545, rj, rq) (g_X12_seaStands_K147_3 a0 I J rj rq x_4567 x_4568 x_4569 k_g_X12_seaStands_L8 x_4966 r_6545 x_6546 ) := by
  rw [g_X12_seaStands_K147_3_e]
  refine fg_ri rfl (fun r_6606 => ?_)
  exact g_X12_seaStands_K167_3_f hk_g_X12_seaStands_L8
theorem g_X12_seaStands_K116_3_f {a0 : Int32} {I : Nat → Int32} {J : Nat → Int64} {rj : Nat → Nat → Int64} {rq : Nat → Nat → Option Nat} {x_4567 : Int32} {x_4568 : Int32} {x_4569 : Int32} {k_g_X12_seaStands_L8 : (Int32) → (Int32) → (Int32) → (Nat → Nat → Int32) → vM} {x_4966 : Int32} {r_6480 : Nat → Nat → Int32} {x_6481 : Int32} (hk_g_X12_seaStands_L8 : ∀ (x_4567 : Int32) (x_4568 : Int32) (x_4569 : Int32) (ri_4570 : Nat → Nat → Int32), FRG id w_X12_seaStands (I, J, ri_4570, rj, rq) (k_g_X12_seaStands_L8 x_4567 x_4568 x_4569 ri_4570)) : FRG id w_X12_seaStands (I, J, r_6480, rj, rq) (g_X12_seaStands_K116_3 a0 I J rj rq x_4567 x_4568 x_4569 k_g_X12_seaStands_L8 x_4966 r_6480 x_6481 ) := by
  rw [g_X12_seaStands_K116_3_e]
  refine fg_ri rfl (fun r_6545 => ?_)
  refine fg_ap (fun x_6546 => ?_)
  exact g_X12_seaStands_K147_3_f hk_g_X12_seaStands_L8
theorem g_X12_seaStands_K96_3_f {a0 : Int32} {I : Nat → Int32} {J : Nat → Int64} {rj : Nat → Nat → Int64} {rq : Nat → Nat → Option Nat} {x_4567 : Int32} {x_4568 : Int32} {x_4569 : Int32} {ri_4570 : Nat → Nat → Int32} {k_g_X12_seaStands_L8 : (Int32) → (Int32) → (Int32) → (Nat → Nat → Int32) → vM} {x_4966 : Int32} {x_6412 : Int32} (hk_g_X12_seaStands_L8 : ∀ (x_4567 : Int32) (x_4568 : Int32) (x_4569 : Int32) (ri_4570 : Nat → Nat → Int32), FRG id w_X12_seaStands (I, J, ri_4570, rj, rq) (k_g_X12_seaStands_L8 x_4567 x_4568 x_4569 ri_4570)) : FRG id w_X12_seaStands (I, J, ri_4570, rj, rq) (g_X12_seaStands_K96_3 a0 I J rj rq x_4567 x_4568 x_4569 ri_4570 k_g_X12_seaStands_L8 x_4966 x_6412 ) := by
  rw [g_X12_seaStands_K96_3_e]
  refine fg_ri rfl (fun r_6480 => ?_)
  refine fg_ap (fun x_6481 => ?_)
  exact g_X12_seaStands_K116_3_f hk_g_X12_seaStands_L8
theorem g_X12_seaStands_K75_3_f {a0 : Int32} {I : Nat → Int32} {J : Nat → Int64} {rj : Nat → Nat → Int64} {rq : Nat → Nat → Option Nat} {x_4567 : Int32} {x_4568 : Int32} {x_4569 : Int32} {ri_4570 : Nat → Nat → Int32} {k_g_X12_seaStands_L8 : (Int32) → (Int32) → (Int32) → (Nat → Nat → Int32) → vM} {x_4966 : Int32} (hk_g_X12_seaStands_L8 : ∀ (x_4567 : Int32) (x_4568 : Int32) (x_4569 : Int32) (ri_4570 : Nat → Nat → Int32), FRG id w_X12_seaStands (I, J, ri_4570, rj, rq) (k_g_X12_seaStands_L8 x_4567 x_4568 x_4569 ri_4570)) : FRG id w_X12_seaStands (I, J, ri_4570, rj, rq) (g_X12_seaStands_K75_3 a0 I J rj rq x_4567 x_4568 x_4569 ri_4570 k_g_X12_seaStands_L8 x_4966 ) := by
  rw [g_X12_seaStands_K75_3_e]
  refine fg_ap (fun x_6412 => ?_)
  exact g_X12_seaStands_K96_3_f hk_g_X12_seaStands_L8
theorem g_X12_seaStands_K360_4_f {x_4569 : Int32} {k_g_X12_seaStands_L8 : (Int32) → (Int32) → (Int32) → (Nat → Nat → Int32) → vM} {x_7174 : Int32} {x_7250 : Int32} {I : Nat → Int32} {J : Nat → Int64} {rj : Nat → Nat → Int64} {rq : Nat → Nat → Option Nat} {ri_7408 : Nat → Nat → Int32} (hk_g_X12_seaStands_L8 : ∀ (x_4567 : Int32) (x_4568 : Int32) (x_4569 : Int32) (ri_4570 : Nat → Nat → Int32), FRG id w_X12_seaStands (I, J, ri_4570, rj, rq) (k_g_X12_seaStands_L8 x_4567 x_4568 x_4569 ri_4570)) : FRG id w_X12_seaStands (I, J, ri_7408, rj, rq) (g_X12_seaStands_K360_4 x_4569 k_g_X12_seaStands_L8 x_7174 x_7250 ri_7408) := by
  rw [g_X12_seaStands_K360_4_e]
  refine fg_ap (fun x_7412 => ?_)
  exact hk_g_X12_seaStands_L8 _ _ _ _
theorem g_X12_seaStands_K287_2_f {x_4569 : Int32} {k_g_X12_seaStands_L8 : (Int32) → (Int32) → (Int32) → (Nat → Nat → Int32) → vM} {x_4966 : Int32} {x_7174 : Int32} {x_7250 : Int32} {I : Nat → Int32} {J : Nat → Int64} {rj : Nat → Nat → Int64} {rq : Nat → Nat → Option Nat} {ri_7447 : Nat → Nat → Int32} (hk_g_X12_seaStands_L8 : ∀ (x_4567 : Int32) (x_4568 : Int32) (x_4569 : Int32) (ri_4570 : Nat → Nat → Int32), FRG id w_X12_seaStands (I, J, ri_4570, rj, rq) (k_g_X12_seaStands_L8 x_4567 x_4568 x_4569 ri_4570)) : FRG id w_X12_seaStands (I, J, ri_7447, rj, rq) (g_X12_seaStands_K287_2 x_4569 k_g_X12_seaStands_L8 x_4966 x_7174 x_7250 ri_7447) := by
  rw [g_X12_seaStands_K287_2_e]
  refine fg_ap (fun x_7462 => ?_)
  refine fg_ap (fun x_7464 => ?_)
  refine fg_if ?_ ?_
  · exact g_X12_seaStands_K360_4_f hk_g_X12_seaStands_L8
  · refine fg_ap (fun x_7474 => ?_)
    refine fg_ap (fun x_7476 => ?_)
    refine fg_ap (fun x_7477 => ?_)
    refine fg_ri rfl (fun r_7478 => ?_)
    exact g_X12_seaStands_K360_4_f hk_g_X12_seaStands_L8
theorem g_X12_seaStands_K207_4_f {a0 : Int32} {I : Nat → Int32} {J : Nat → Int64} {rj : Nat → Nat → Int64} {rq : Nat → Nat → Option Nat} {x_4569 : Int32} {k_g_X12_seaStands_L8 : (Int32) → (Int32) → (Int32) → (Nat → Nat → Int32) → vM} {x_4966 : Int32} {r_7165 : Nat → Nat → Int32} {x_7174 : Int32} {x_7250 : Int32} (hk_g_X12_seaStands_L8 : ∀ (x_4567 : Int32) (x_4568 : Int32) (x_4569 : Int32) (ri_4570 : Nat → Nat → Int32), FRG id w_X12_seaStands (I, J, ri_4570, rj, rq) (k_g_X12_seaStands_L8 x_4567 x_4568 x_4569 ri_4570)) : FRG id w_X12_seaStands (I, J, r_7165, rj, rq) (g_X12_seaStands_K207_4 a0 I J rj rq x_4569 k_g_X12_seaStands_L8 x_4966 r_7165 x_7174 x_7250 ) := by
  rw [g_X12_seaStands_K207_4_e]
  refine fg_ap (fun x_7359 => ?_)
  refine fg_ap (fun x_7361 => ?_)
  refine fg_if ?_ ?_
  · exact g_X12_seaStands_K360_4_f hk_g_X12_seaStands_L8
  · refine fg_ap (fun x_7420 => ?_)
    refine fg_ap (fun x_7422 => ?_)
    refine fg_bI g_X12_tableAt_c4_f rfl (fun x_7423 I_z4 J_z4 ri_z4 rj_z4 rq_z4 h_4 => ?_)
    rw [fe_I h_4, fe_J h_4, fe_ri h_4, fe_rj h_4, fe_rq h_4]
    refine fg_ap (fun x_7430 => ?_)
    refine fg_ap (fun x_7432 => ?_)
    refine fg_ap (fun x_7433 => ?_)
    refine fg_ap (fun x_7434 => ?_)
    refine fg_ri rfl (fun r_7435 => ?_)
    refine fg_ap (fun x_7436 => ?_)
    refine fg_ap (fun x_7438 => ?_)
    refine fg_if ?_ ?_
    · exact g_X12_seaStands_K287_2_f hk_g_X12_seaStands_L8
    · refine fg_ap (fun x_7488 => ?_)
      refine fg_ri rfl (fun r_7490 => ?_)
      exact g_X12_seaStands_K287_2_f hk_g_X12_seaStands_L8
theorem g_X12_seaStands_K191_4_f {a0 : Int32} {I : Nat → Int32} {J : Nat → Int64} {rj : Nat → Nat → Int64} {rq : Nat → Nat → Option Nat} {x_4569 : Int32} {k_g_X12_seaStands_L8 : (Int32) → (Int32) → (Int32) → (Nat → Nat → Int32) → vM} {x_4966 : Int32} {r_7165 : Nat → Nat → Int32} {x_7174 : Int32} {x_7250 : Int32} (hk_g_X12_seaStands_L8 : ∀ (x_4567 : Int32) (x_4568 : Int32) (x_4569 : Int32) (ri_4570 : Nat → Nat → Int32), FRG id w_X12_seaStands (I, J, ri_4570, rj, rq) (k_g_X12_seaStands_L8 x_4567 x_4568 x_4569 ri_4570)) : FRG id w_X12_seaStands (I, J, r_7165, rj, rq) (g_X12_seaStands_K191_4 a0 I J rj rq x_4569 k_g_X12_seaStands_L8 x_4966 r_7165 x_7174 x_7250) := by
  rw [g_X12_seaStands_K191_4_e]
  exact g_X12_seaStands_K207_4_f hk_g_X12_seaStands_L8
theorem g_X12_seaStands_K167_4_f {a0 : Int32} {I : Nat → Int32} {J : Nat → Int64} {rj : Nat → Nat → Int64} {rq : Nat → Nat → Option Nat} {x_4568 : Int32} {x_4569 : Int32} {k_g_X12_seaStands_L8 : (Int32) → (Int32) → (Int32) → (Nat → Nat → Int32) → vM} {x_4966 : Int32} {r_7165 : Nat → Nat → Int32} {x_7174 : Int32} (hk_g_X12_seaStands_L8 : ∀ (x_4567 : Int32) (x_4568 : Int32) (x_4569 : Int32) (ri_4570 : Nat → Nat → Int32), FRG id w_X12_seaStands (I, J, ri_4570, rj, rq) (k_g_X12_seaStands_L8 x_4567 x_4568 x_4569 ri_4570)) : FRG id w_X12_seaStands (I, J, r_7165, rj, rq) (g_X12_seaStands_K167_4 a0 I J rj rq x_4568 x_4569 k_g_X12_seaStands_L8 x_4966 r_7165 x_7174) := by
  rw [g_X12_seaStands_K167_4_e]
  refine fg_if ?_ ?_
  · exact g_X12_seaStands_K191_4_f hk_g_X12_seaStands_L8
  · refine fg_ap (fun x_7504 => ?_)
    refine fg_ap (fun x_7506 => ?_)
    refine fg_ap (fun x_7507 => ?_)
    exact g_X12_seaStands_K191_4_f hk_g_X12_seaStands_L8
theorem g_X12_seaStands_K147_4_f {a0 : Int32} {I : Nat → Int32} {J : Nat → Int64} {rj : Nat → Nat → Int64} {rq : Nat → Nat → Option Nat} {x_4567 : Int32} {x_4568 : Int32} {x_4569 : Int32} {k_g_X12_seaStands_L8 : (Int32) → (Int32) → (Int32) → (Nat → Nat → Int32) → vM} {x_4966 : Int32} {r_7086 : Nat → Nat → Int32} {x_7087 : Int32} (hk_g_X12_seaStands_L8 : ∀ (x_4567 : Int32) (x_4568 : Int32) (x_4569 : Int32) (ri_4570 : Nat → Nat → Int32), FRG id w_X12_seaStands (I, J, ri_4570, rj, rq) (k_g_X12_seaStands_L8 x_4567 x_4568 x_4569 ri_4570)) : FRG id w_X12_seaStands (I, J, r_7086, rj, rq) (g_X12_seaStands_K147_4 a0 I J rj rq x_4567 x_4568 x_4569 k_g_X12_seaStands_L8 x_4966 r_7086 x_7087 ) := by
  rw [g_X12_seaStands_K147_4_e]
  refine fg_ri rfl (fun r_7165 => ?_)
  refine fg_if ?_ ?_
  · exact g_X12_seaStands_K167_4_f hk_g_X12_seaStands_L8
  · refine fg_ap (fun x_7518 => ?_)
    refine fg_ap (fun x_7519 => ?_)
    exact g_X12_seaStands_K167_4_f hk_g_X12_seaStands_L8
theorem g_X12_seaStands_K116_4_f {a0 : Int32} {I : Nat → Int32} {J : Nat → Int64} {rj : Nat → Nat → Int64} {rq : Nat → Nat → Option Nat} {x_4567 : Int32} {x_4568 : Int32} {x_4569 : Int32} {k_g_X12_seaStands_L8 : (Int32) → (Int32) → (Int32) → (Nat → Nat → Int32) → vM} {x_4966 : Int32} {r_7003 : Nat → Nat → Int32} {x_7004 : Int32} (hk_g_X12_seaStands_L8 : ∀ (x_4567 : Int32) (x_4568 : Int32) (x_4569 : Int32) (ri_4570 : Nat → Nat → Int32), FRG id w_X12_seaStands (I, J, ri_4570, rj, rq) (k_g_X12_seaStands_L8 x_4567 x_4568 x_4569 ri_4570)) : FRG id w_X12_seaStands (I, J, r_7003, rj, rq) (g_X12_seaStands_K116_4 a0 I J rj rq x_4567 x_4568 x_4569 k_g_X12_seaStands_L8 x_4966 r_7003 x_7004 ) := by
  rw [g_X12_seaStands_K116_4_e]
  refine fg_ri rfl (fun r_7086 => ?_)
  refine fg_ap (fun x_7087 => ?_)
  exact g_X12_seaStands_K147_4_f hk_g_X12_seaStands_L8
theorem g_X12_seaStands_K96_4_f {a0 : Int32} {I : Nat → Int32} {J : Nat → Int64} {rj : Nat → Nat → Int64} {rq : Nat → Nat → Option Nat} {x_4567 : Int32} {x_4568 : Int32} {x_4569 : Int32} {ri_4570 : Nat → Nat → Int32} {k_g_X12_seaStands_L8 : (Int32) → (Int32) → (Int32) → (Nat → Nat → Int32) → vM} {x_4966 : Int32} {x_6917 : Int32} (hk_g_X12_seaStands_L8 : ∀ (x_4567 : Int32) (x_4568 : Int32) (x_4569 : Int32) (ri_4570 : Nat → Nat → Int32), FRG id w_X12_seaStands (I, J, ri_4570, rj, rq) (k_g_X12_seaStands_L8 x_4567 x_4568 x_4569 ri_4570)) : FRG id w_X12_seaStands (I, J, ri_4570, rj, rq) (g_X12_seaStands_K96_4 a0 I J rj rq x_4567 x_4568 x_4569 ri_4570 k_g_X12_seaStands_L8 x_4966 x_6917 ) := by
  rw [g_X12_seaStands_K96_4_e]
  refine fg_ri rfl (fun r_7003 => ?_)
  refine fg_ap (fun x_7004 => ?_)
  exact g_X12_seaStands_K116_4_f hk_g_X12_seaStands_L8
theorem g_X12_seaStands_K75_4_f {a0 : Int32} {I : Nat → Int32} {J : Nat → Int64} {rj : Nat → Nat → Int64} {rq : Nat → Nat → Option Nat} {x_4567 : Int32} {x_4568 : Int32} {x_4569 : Int32} {ri_4570 : Nat → Nat → Int32} {k_g_X12_seaStands_L8 : (Int32) → (Int32) → (Int32) → (Nat → Nat → Int32) → vM} {x_4966 : Int32} (hk_g_X12_seaStands_L8 : ∀ (x_4567 : Int32) (x_4568 : Int32) (x_4569 : Int32) (ri_4570 : Nat → Nat → Int32), FRG id w_X12_seaStands (I, J, ri_4570, rj, rq) (k_g_X12_seaStands_L8 x_4567 x_4568 x_4569 ri_4570)) : FRG id w_X12_seaStands (I, J, ri_4570, rj, rq) (g_X12_seaStands_K75_4 a0 I J rj rq x_4567 x_4568 x_4569 ri_4570 k_g_X12_seaStands_L8 x_4966 ) := by
  rw [g_X12_seaStands_K75_4_e]
  refine fg_ap (fun x_6917 => ?_)
  exact g_X12_seaStands_K96_4_f hk_g_X12_seaStands_L8
theorem g_X12_seaStands_K51_2_f {a0 : Int32} {a1 : Int32} {I : Nat → Int32} {J : Nat → Int64} {rj : Nat → Nat → Int64} {rq : Nat → Nat → Option Nat} {x_4567 : Int32} {x_4568 : Int32} {x_4569 : Int32} {ri_4570 : Nat → Nat → Int32} {k_g_X12_seaStands_L8 : (Int32) → (Int32) → (Int32) → (Nat → Nat → Int32) → vM} {x_4966 : Int32} (hk_g_X12_seaStands_L8 : ∀ (x_4567 : Int32) (x_4568 : Int32) (x_4569 : Int32) (ri_4570 : Nat → Nat → Int32), FRG id w_X12_seaStands (I, J, ri_4570, rj, rq) (k_g_X12_seaStands_L8 x_4567 x_4568 x_4569 ri_4570)) : FRG id w_X12_seaStands (I, J, ri_4570, rj, rq) (g_X12_seaStands_K51_2 a0 a1 I J rj rq x_4567 x_4568 x_4569 ri_4570 k_g_X12_seaStands_L8 x_4966 ) := by
  rw [g_X12_seaStands_K51_2_e]
  refine fg_bI g_X12_topOf_f rfl (fun x_6237 I_z5 J_z5 ri_z5 rj_z5 rq_z5 h_5 => ?_)
  rw [fe_I h_5, fe_J h_5, fe_ri h_5, fe_rj h_5, fe_rq h_5]
  refine fg_bI g_X12_tableAt_c0_f rfl (fun x_6244 I_z6 J_z6 ri_z6 rj_z6 rq_z6 h_6 => ?_)
  rw [fe_I h_6, fe_J h_6, fe_ri h_6, fe_rj h_6, fe_rq h_6]
  refine fg_ap (fun x_6251 => ?_)
  refine fg_if ?_ ?_
  · exact g_X12_seaStands_K75_3_f hk_g_X12_seaStands_L8
  · exact g_X12_seaStands_K75_4_f hk_g_X12_seaStands_L8
theorem g_X12_seaStands_L8_f {a0 : Int32} {a1 : Int32} {I : Nat → Int32} {J : Nat → Int64} {ri : Nat → Nat → Int32} {rj : Nat → Nat → Int64} {rq : Nat → Nat → Option Nat}  : ∀ (n_4935 : Nat) (x_4567 : Int32) (x_4568 : Int32) (x_4569 : Int32) (ri_4570 : Nat → Nat → Int32), FRG id w_X12_seaStands (I, J, ri_4570, rj, rq) (g_X12_seaStands_L8 a0 a1 I J ri rj rq n_4935 x_4567 x_4568 x_4569 ri_4570) := by
  intro n_4935
  induction n_4935 with
  | zero => intros; exact fv_rt rfl
  | succ n_4935 ih =>
    intro x_4567 x_4568 x_4569 ri_4570
    rw [g_X12_seaStands_L8_e]
    refine fg_ap (fun y_4942 => ?_)
    refine fg_if ?_ ?_
    · refine fg_ap (fun x_4949 => ?_)
      refine fg_ap (fun x_4951 => ?_)
      refine fg_ri rfl (fun r_4953 => ?_)
      refine fg_ap (fun x_4954 => ?_)
      refine fg_ap (fun x_4956 => ?_)
      refine fg_ap (fun x_4958 => ?_)
      refine fg_ri rfl (fun r_4960 => ?_)
      exact fv_rt rfl
    · refine fg_ap (fun x_4964 => ?_)
      refine fg_ap (fun x_4966 => ?_)
      refine fg_bI g_X12_topOf_f rfl (fun x_4968 I_z7 J_z7 ri_z7 rj_z7 rq_z7 h_7 => ?_)
      rw [fe_I h_7, fe_J h_7, fe_ri h_7, fe_rj h_7, fe_rq h_7]
      refine fg_bI g_X12_tableAt_c1_f rfl (fun x_4975 I_z8 J_z8 ri_z8 rj_z8 rq_z8 h_8 => ?_)
      rw [fe_I h_8, fe_J h_8, fe_ri h_8, fe_rj h_8, fe_rq h_8]
      refine fg_ap (fun x_4982 => ?_)
      refine fg_if ?_ ?_
      · exact g_X12_seaStands_K51_f ih
      · exact g_X12_seaStands_K51_2_f ih
theorem g_X12_seaStands_f {a0 : Int32} {a1 : Int32} {I : Nat → Int32} {J : Nat → Int64} {ri : Nat → Nat → Int32} {rj : Nat → Nat → Int64} {rq : Nat → Nat → Option Nat}  : FRG id w_X12_seaStands (I, J, ri, rj, rq) (g_X12_seaStands  a0 a1 I J ri rj rq) := by
  rw [g_X12_seaStands_e]
  exact g_X12_seaStands_L8_f  _ _ _ _ _

def w_X12_cellAt_c10 : wS := ([], [], [], [], [])
theorem g_X12_cellAt_c10_f {a0 : Int32} {I : Nat → Int32} {J : Nat → Int64} {ri : Nat → Nat → Int32} {rj : Nat → Nat → Int64} {rq : Nat → Nat → Option Nat}  : FRG Prod.snd w_X12_cellAt_c10 (I, J, ri, rj, rq) (g_X12_cellAt_c10  a0 I J ri rj rq) := by
  rw [g_X12_cellAt_c10_e]
  refine fg_ap (fun x_2 => ?_)
  refine fg_ap (fun x_4 => ?_)
  refine fg_ap (fun x_6 => ?_)
  refine fg_ap (fun x_8 => ?_)
  exact fv_rt rfl

def w_X12_cellAt_c9 : wS := ([], [], [], [], [])
theorem g_X12_cellAt_c9_f {a0 : Int32} {I : Nat → Int32} {J : Nat → Int64} {ri : Nat → Nat → Int32} {rj : Nat → Nat → Int64} {rq : Nat → Nat → Option Nat}  : FRG Prod.snd w_X12_cellAt_c9 (I, J, ri, rj, rq) (g_X12_cellAt_c9  a0 I J ri rj rq) := by
  rw [g_X12_cellAt_c9_e]
  refine fg_ap (fun x_2 => ?_)
  refine fg_ap (fun x_4 => ?_)
  refine fg_ap (fun x_6 => ?_)
  refine fg_ap (fun x_8 => ?_)
  exact fv_rt rfl

def w_X12_isSweet : wS := ([], [], [], [], [])
theorem g_X12_isSweet_K48_f {I : Nat → Int32} {J : Nat → Int64} {ri : Nat → Nat → Int32} {rj : Nat → Nat → Int64} {rq : Nat → Nat → Option Nat}  : FRG Prod.snd w_X12_isSweet (I, J, ri, rj, rq) (g_X12_isSweet_K48 I J ri rj rq ) := by
  rw [g_X12_isSweet_K48_e]
  exact fv_rt rfl
theorem g_X12_isSweet_f {a0 : Int32} {a1 : Int32} {I : Nat → Int32} {J : Nat → Int64} {ri : Nat → Nat → Int32} {rj : Nat → Nat → Int64} {rq : Nat → Nat → Option Nat}  : FRG Prod.snd w_X12_isSweet (I, J, ri, rj, rq) (g_X12_isSweet  a0 a1 I J ri rj rq) := by
  rw [g_X12_isSweet_e]
  refine fg_bI g_X12_cellAt_c0_f rfl (fun x_1 I_z1 J_z1 ri_z1 rj_z1 rq_z1 h_1 => ?_)
  rw [fe_I h_1, fe_J h_1, fe_ri h_1, fe_rj h_1, fe_rq h_1]
  refine fg_if ?_ ?_
  · refine fg_bI g_X12_cellAt_c8_f rfl (fun x_53 I_z2 J_z2 ri_z2 rj_z2 rq_z2 h_2 => ?_)
    rw [fe_I h_2, fe_J h_2, fe_ri h_2, fe_rj h_2, fe_rq h_2]
    refine fg_if ?_ ?_
    · exact g_X12_isSweet_K48_f 
    · refine fg_bI g_X12_cellAt_c10_f rfl (fun x_69 I_z3 J_z3 ri_z3 rj_z3 rq_z3 h_3 => ?_)
      rw [fe_I h_3, fe_J h_3, fe_ri h_3, fe_rj h_3, fe_rq h_3]
      refine fg_if ?_ ?_
      · exact g_X12_isSweet_K48_f 
      · refine fg_bI g_X12_cellAt_c9_f rfl (fun x_85 I_z4 J_z4 ri_z4 rj_z4 rq_z4 h_4 => ?_)
        rw [fe_I h_4, fe_J h_4, fe_ri h_4, fe_rj h_4, fe_rq h_4]
        refine fg_if ?_ ?_
        · exact g_X12_isSweet_K48_f 
        · exact fv_rt rfl
  · exact g_X12_isSweet_K48_f 

def w_X12_isOnRing : wS := ([], [], [], [], [])
theorem g_X12_isOnRing_f {a0 : Int32} {I : Nat → Int32} {J : Nat → Int64} {ri : Nat → Nat → Int32} {rj : Nat → Nat → Int64} {rq : Nat → Nat → Option Nat}  : FRG Prod.snd w_X12_isOnRing (I, J, ri, rj, rq) (g_X12_isOnRing  a0 I J ri rj rq) := by
  rw [g_X12_isOnRing_e]
  refine fg_bI g_X12_personAt_c3_f rfl (fun x_1 I_z1 J_z1 ri_z1 rj_z1 rq_z1 h_1 => ?_)
  rw [fe_I h_1, fe_J h_1, fe_ri h_1, fe_rj h_1, fe_rq h_1]
  refine fg_if ?_ ?_
  · exact fv_rt rfl
  · exact fv_rt rfl

def w_X12_drink : wS := ([], [], [384], [], [])
theorem g_X12_drink_K107_f {x_9754 : Int32} {k_g_X12_drink_L2 : (Int32) → (Nat → Nat → Int32) → vM} {I : Nat → Int32} {J : Nat → Int64} {rj : Nat → Nat → Int64} {rq : Nat → Nat → Option Nat} {ri_11398 : Nat → Nat → Int32} (hk_g_X12_drink_L2 : ∀ (x_9754 : Int32) (ri_9755 : Nat → Nat → Int32), FRG id w_X12_drink (I, J, ri_9755, rj, rq) (k_g_X12_drink_L2 x_9754 ri_9755)) : FRG id w_X12_drink (I, J, ri_11398, rj, rq) (g_X12_drink_K107 x_9754 k_g_X12_drink_L2 ri_11398) := by
  rw [g_X12_drink_K107_e]
  refine fg_ap (fun x_11402 => ?_)
  exact hk_g_X12_drink_L2 _ _
theorem g_X12_drink_K55_f {x_9754 : Int32} {ri_9755 : Nat → Nat → Int32} {k_g_X12_drink_L2 : (Int32) → (Nat → Nat → Int32) → vM} {x_12090 : Int32} {y_12154 : Int32} {I : Nat → Int32} {J : Nat → Int64} {rj : Nat → Nat → Int64} {rq : Nat → Nat → Option Nat} (hk_g_X12_drink_L2 : ∀ (x_9754 : Int32) (ri_9755 : Nat → Nat → Int32), FRG id w_X12_drink (I, J, ri_9755, rj, rq) (k_g_X12_drink_L2 x_9754 ri_9755)) : FRG id w_X12_drink (I, J, ri_9755, rj, rq) (g_X12_drink_K55 x_9754 ri_9755 k_g_X12_drink_L2 x_12090 y_12154 ) := by
  rw [g_X12_drink_K55_e]
  refine fg_if ?_ ?_
  · refine fg_ap (fun x_12215 => ?_)
    refine fg_ap (fun x_12217 => ?_)
    refine fg_ap (fun x_12219 => ?_)
    refine fg_ap (fun x_12221 => ?_)
    refine fg_ap (fun x_12222 => ?_)
    refine fg_ri rfl (fun r_12223 => ?_)
    exact g_X12_drink_K107_f hk_g_X12_drink_L2
  · refine fg_ap (fun x_12227 => ?_)
    refine fg_ap (fun x_12229 => ?_)
    refine fg_ap (fun x_12231 => ?_)
    refine fg_ap (fun x_12233 => ?_)
    refine fg_ap (fun x_12234 => ?_)
    refine fg_ri rfl (fun r_12235 => ?_)
    exact g_X12_drink_K107_f hk_g_X12_drink_L2
theorem g_X12_drink_L25_f {I : Nat → Int32} {J : Nat → Int64} {ri : Nat → Nat → Int32} {rj : Nat → Nat → Int64} {rq : Nat → Nat → Option Nat} {x_9754 : Int32} {ri_9755 : Nat → Nat → Int32} {k_g_X12_drink_L2 : (Int32) → (Nat → Nat → Int32) → vM} (hk_g_X12_drink_L2 : ∀ (x_9754 : Int32) (ri_9755 : Nat → Nat → Int32), FRG id w_X12_drink (I, J, ri_9755, rj, rq) (k_g_X12_drink_L2 x_9754 ri_9755)) : ∀ (n_12148 : Nat) (x_12090 : Int32), FRG id w_X12_drink (I, J, ri_9755, rj, rq) (g_X12_drink_L25 I J ri rj rq x_9754 ri_9755 k_g_X12_drink_L2 n_12148 x_12090) := by
  intro n_12148
  induction n_12148 with
  | zero => intros; exact fv_rt rfl
  | succ n_12148 ih =>
    intro x_12090
    rw [g_X12_drink_L25_e]
    refine fg_ap (fun y_12154 => ?_)
    refine fg_if ?_ ?_
    · exact g_X12_drink_K55_f hk_g_X12_drink_L2
    · refine fg_bI g_X12_personAt_c3_f rfl (fun x_12245 I_z1 J_z1 ri_z1 rj_z1 rq_z1 h_1 => ?_)
      rw [fe_I h_1, fe_J h_1, fe_ri h_1, fe_rj h_1, fe_rq h_1]
      refine fg_bI g_X12_isSweet_f rfl (fun x_12255 I_z2 J_z2 ri_z2 rj_z2 rq_z2 h_2 => ?_)
      rw [fe_I h_2, fe_J h_2, fe_ri h_2, fe_rj h_2, fe_rq h_2]
      refine fg_if ?_ ?_
      · refine fg_ap (fun x_12272 => ?_)
        exact ih _
      · exact g_X12_drink_K55_f hk_g_X12_drink_L2
theorem g_X12_drink_L2_f {I : Nat → Int32} {J : Nat → Int64} {ri : Nat → Nat → Int32} {rj : Nat → Nat → Int64} {rq : Nat → Nat → Option Nat}  : ∀ (n_10575 : Nat) (x_9754 : Int32) (ri_9755 : Nat → Nat → Int32), FRG id w_X12_drink (I, J, ri_9755, rj, rq) (g_X12_drink_L2 I J ri rj rq n_10575 x_9754 ri_9755) := by
  intro n_10575
  induction n_10575 with
  | zero => intros; exact fv_rt rfl
  | succ n_10575 ih =>
    intro x_9754 ri_9755
    rw [g_X12_drink_L2_e]
    refine fg_ap (fun y_10582 => ?_)
    refine fg_if ?_ ?_
    · exact fv_rt rfl
    · refine fg_bI g_X12_isOnRing_f rfl (fun x_10592 I_z3 J_z3 ri_z3 rj_z3 rq_z3 h_3 => ?_)
      rw [fe_I h_3, fe_J h_3, fe_ri h_3, fe_rj h_3, fe_rq h_3]
      refine fg_if ?_ ?_
      · exact g_X12_drink_K107_f ih
      · exact g_X12_drink_L25_f ih _ _
theorem g_X12_drink_f {I : Nat → Int32} {J : Nat → Int64} {ri : Nat → Nat → Int32} {rj : Nat → Nat → Int64} {rq : Nat → Nat → Option Nat}  : FRG id w_X12_drink (I, J, ri, rj, rq) (g_X12_drink  I J ri rj rq) := by
  rw [g_X12_drink_e]
  exact g_X12_drink_L2_f  _ _ _

def w_X12_sleep : wS := ([], [], [384], [], [])
theorem g_X12_sleep_K111_f {x_72007 : Int32} {k_g_X12_sleep_L58 : (Int32) → (Int32) → (Nat → Nat → Int32) → vM} {I : Nat → Int32} {J : Nat → Int64} {rj : Nat → Nat → Int64} {rq : Nat → Nat → Option Nat} {x_72098 : Int32} {ri_72099 : Nat → Nat → Int32} (hk_g_X12_sleep_L58 : ∀ (x_72006 : Int32) (x_72007 : Int32) (ri_72008 : Nat → Nat → Int32), FRG id w_X12_sleep (I, J, ri_72008, rj, rq) (k_g_X12_sleep_L58 x_72006 x_72007 ri_72008)) : FRG id w_X12_sleep (I, J, ri_72099, rj, rq) (g_X12_sleep_K111 x_72007 k_g_X12_sleep_L58 x_72098 ri_72099) := by
  rw [g_X12_sleep_K111_e]
  refine fg_ap (fun x_72103 => ?_)
  exact hk_g_X12_sleep_L58 _ _ _
theorem g_X12_sleep_L58_f {I : Nat → Int32} {J : Nat → Int64} {ri : Nat → Nat → Int32} {rj : Nat → Nat → Int64} {rq : Nat → Nat → Option Nat} {x_54128 : Int32} {k_g_X12_sleep_L2 : (Int32) → (Nat → Nat → Int32) → vM} (hk_g_X12_sleep_L2 : ∀ (x_54128 : Int32) (ri_54129 : Nat → Nat → Int32), FRG id w_X12_sleep (I, J, ri_54129, rj, rq) (k_g_X12_sleep_L2 x_54128 ri_54129)) : ∀ (n_72052 : Nat) (x_72006 : Int32) (x_72007 : Int32) (ri_72008 : Nat → Nat → Int32), FRG id w_X12_sleep (I, J, ri_72008, rj, rq) (g_X12_sleep_L58 I J ri rj rq x_54128 k_g_X12_sleep_L2 n_72052 x_72006 x_72007 ri_72008) := by
  intro n_72052
  induction n_72052 with
  | zero => intros; exact fv_rt rfl
  | succ n_72052 ih =>
    intro x_72006 x_72007 ri_72008
    rw [g_X12_sleep_L58_e]
    refine fg_ap (fun y_72058 => ?_)
    refine fg_if ?_ ?_
    · refine fg_ap (fun x_72065 => ?_)
      exact hk_g_X12_sleep_L2 _ _
    · refine fg_bI g_X12_personAt_c3_f rfl (fun x_72070 I_z1 J_z1 ri_z1 rj_z1 rq_z1 h_1 => ?_)
      rw [fe_I h_1, fe_J h_1, fe_ri h_1, fe_rj h_1, fe_rq h_1]
      refine fg_if ?_ ?_
      · refine fg_if ?_ ?_
        · refine fg_ap (fun x_72119 => ?_)
          refine fg_ap (fun x_72121 => ?_)
          refine fg_ap (fun x_72123 => ?_)
          refine fg_ap (fun x_72125 => ?_)
          refine fg_ap (fun x_72126 => ?_)
          refine fg_ri rfl (fun r_72127 => ?_)
          exact g_X12_sleep_K111_f ih
        · refine fg_ap (fun x_72116 => ?_)
          exact g_X12_sleep_K111_f ih
      · exact g_X12_sleep_K111_f ih
theorem g_X12_sleep_K48_f {x_70811 : Int32} {x_70812 : Int32} {k_g_X12_sleep_L16 : (Int32) → (Int32) → vM} {I : Nat → Int32} {J : Nat → Int64} {rj : Nat → Nat → Int64} {rq : Nat → Nat → Option Nat} {ri_54129 : Nat → Nat → Int32} {x_72150 : Int32} (hk_g_X12_sleep_L16 : ∀ (x_70811 : Int32) (x_70812 : Int32), FRG id w_X12_sleep (I, J, ri_54129, rj, rq) (k_g_X12_sleep_L16 x_70811 x_70812)) : FRG id w_X12_sleep (I, J, ri_54129, rj, rq) (g_X12_sleep_K48 x_70811 x_70812 k_g_X12_sleep_L16 x_72150) := by
  rw [g_X12_sleep_K48_e]
  refine fg_ap (fun x_72155 => ?_)
  refine fg_ap (fun x_72156 => ?_)
  exact hk_g_X12_sleep_L16 _ _
theorem g_X12_sleep_L16_f {I : Nat → Int32} {J : Nat → Int64} {ri : Nat → Nat → Int32} {rj : Nat → Nat → Int64} {rq : Nat → Nat → Option Nat} {x_54128 : Int32} {ri_54129 : Nat → Nat → Int32} {k_g_X12_sleep_L2 : (Int32) → (Nat → Nat → Int32) → vM} (hk_g_X12_sleep_L2 : ∀ (x_54128 : Int32) (ri_54129 : Nat → Nat → Int32), FRG id w_X12_sleep (I, J, ri_54129, rj, rq) (k_g_X12_sleep_L2 x_54128 ri_54129)) : ∀ (n_71463 : Nat) (x_70811 : Int32) (x_70812 : Int32), FRG id w_X12_sleep (I, J, ri_54129, rj, rq) (g_X12_sleep_L16 I J ri rj rq x_54128 ri_54129 k_g_X12_sleep_L2 n_71463 x_70811 x_70812) := by
  intro n_71463
  induction n_71463 with
  | zero => intros; exact fv_rt rfl
  | succ n_71463 ih =>
    intro x_70811 x_70812
    rw [g_X12_sleep_L16_e]
    refine fg_ap (fun y_71469 => ?_)
    refine fg_if ?_ ?_
    · exact g_X12_sleep_L58_f hk_g_X12_sleep_L2 _ _ _ _
    · refine fg_bI g_X12_cellAt_c0_f rfl (fun x_72132 I_z2 J_z2 ri_z2 rj_z2 rq_z2 h_2 => ?_)
      rw [fe_I h_2, fe_J h_2, fe_ri h_2, fe_rj h_2, fe_rq h_2]
      refine fg_if ?_ ?_
      · refine fg_bI g_X12_cellAt_c7_f rfl (fun x_72165 I_z3 J_z3 ri_z3 rj_z3 rq_z3 h_3 => ?_)
        rw [fe_I h_3, fe_J h_3, fe_ri h_3, fe_rj h_3, fe_rq h_3]
        exact g_X12_sleep_K48_f ih
      · exact g_X12_sleep_K48_f ih
theorem g_X12_sleep_L2_f {I : Nat → Int32} {J : Nat → Int64} {ri : Nat → Nat → Int32} {rj : Nat → Nat → Int64} {rq : Nat → Nat → Option Nat}  : ∀ (n_63118 : Nat) (x_54128 : Int32) (ri_54129 : Nat → Nat → Int32), FRG id w_X12_sleep (I, J, ri_54129, rj, rq) (g_X12_sleep_L2 I J ri rj rq n_63118 x_54128 ri_54129) := by
  intro n_63118
  induction n_63118 with
  | zero => intros; exact fv_rt rfl
  | succ n_63118 ih =>
    intro x_54128 ri_54129
    rw [g_X12_sleep_L2_e]
    refine fg_ap (fun y_63125 => ?_)
    refine fg_if ?_ ?_
    · exact fv_rt rfl
    · exact g_X12_sleep_L16_f ih _ _ _
theorem g_X12_sleep_f {I : Nat → Int32} {J : Nat → Int64} {ri : Nat → Nat → Int32} {rj : Nat → Nat → Int64} {rq : Nat → Nat → Option Nat}  : FRG id w_X12_sleep (I, J, ri, rj, rq) (g_X12_sleep  I J ri rj rq) := by
  rw [g_X12_sleep_e]
  exact g_X12_sleep_L2_f  _ _ _

def w_X12_wasRock : wS := ([], [], [], [], [])
theorem g_X12_wasRock_K42_f {I : Nat → Int32} {J : Nat → Int64} {ri : Nat → Nat → Int32} {rj : Nat → Nat → Int64} {rq : Nat → Nat → Option Nat} {x_24 : Int32}  : FRG Prod.snd w_X12_wasRock (I, J, ri, rj, rq) (g_X12_wasRock_K42 I J ri rj rq x_24) := by
  rw [g_X12_wasRock_K42_e]
  refine fg_ap (fun x_31 => ?_)
  refine fg_if ?_ ?_
  · exact fv_rt rfl
  · exact fv_rt rfl
theorem g_X12_wasRock_f {a0 : Int32} {a1 : Int32} {I : Nat → Int32} {J : Nat → Int64} {ri : Nat → Nat → Int32} {rj : Nat → Nat → Int64} {rq : Nat → Nat → Option Nat}  : FRG Prod.snd w_X12_wasRock (I, J, ri, rj, rq) (g_X12_wasRock  a0 a1 I J ri rj rq) := by
  rw [g_X12_wasRock_e]
  refine fg_if ?_ ?_
  · refine fg_ap (fun x_47 => ?_)
    refine fg_ap (fun x_49 => ?_)
    refine fg_ap (fun x_51 => ?_)
    refine fg_ap (fun x_53 => ?_)
    refine fg_ap (fun x_54 => ?_)
    refine fg_ap (fun x_56 => ?_)
    exact g_X12_wasRock_K42_f 
  · refine fg_ap (fun x_60 => ?_)
    refine fg_ap (fun x_62 => ?_)
    refine fg_ap (fun x_64 => ?_)
    refine fg_ap (fun x_65 => ?_)
    exact g_X12_wasRock_K42_f 

def w_X12_cellAt_c2 : wS := ([], [], [], [], [])
theorem g_X12_cellAt_c2_f {a0 : Int32} {I : Nat → Int32} {J : Nat → Int64} {ri : Nat → Nat → Int32} {rj : Nat → Nat → Int64} {rq : Nat → Nat → Option Nat}  : FRG Prod.snd w_X12_cellAt_c2 (I, J, ri, rj, rq) (g_X12_cellAt_c2  a0 I J ri rj rq) := by
  rw [g_X12_cellAt_c2_e]
  refine fg_ap (fun x_2 => ?_)
  refine fg_ap (fun x_4 => ?_)
  refine fg_ap (fun x_6 => ?_)
  refine fg_ap (fun x_8 => ?_)
  exact fv_rt rfl

def w_X12_cellAt_c3 : wS := ([], [], [], [], [])
theorem g_X12_cellAt_c3_f {a0 : Int32} {I : Nat → Int32} {J : Nat → Int64} {ri : Nat → Nat → Int32} {rj : Nat → Nat → Int64} {rq : Nat → Nat → Option Nat}  : FRG Prod.snd w_X12_cellAt_c3 (I, J, ri, rj, rq) (g_X12_cellAt_c3  a0 I J ri rj rq) := by
  rw [g_X12_cellAt_c3_e]
  refine fg_ap (fun x_2 => ?_)
  refine fg_ap (fun x_4 => ?_)
  refine fg_ap (fun x_6 => ?_)
  refine fg_ap (fun x_8 => ?_)
  exact fv_rt rfl

def w_X12_areaOf : wS := ([], [], [], [], [])
theorem g_X12_areaOf_K154_f {x_57616 : Int32} {x_57617 : Int32} {k_g_X12_areaOf_L30 : (Int32) → (Int32) → Int32 × vM} {I : Nat → Int32} {J : Nat → Int64} {ri : Nat → Nat → Int32} {rj : Nat → Nat → Int64} {rq : Nat → Nat → Option Nat} (hk_g_X12_areaOf_L30 : ∀ (x_57616 : Int32) (x_57617 : Int32), FRG Prod.snd w_X12_areaOf (I, J, ri, rj, rq) (k_g_X12_areaOf_L30 x_57616 x_57617)) : FRG Prod.snd w_X12_areaOf (I, J, ri, rj, rq) (g_X12_areaOf_K154 x_57616 x_57617 k_g_X12_areaOf_L30 ) := by
  rw [g_X12_areaOf_K154_e]
  refine fg_ap (fun x_59769 => ?_)
  refine fg_ap (fun x_59771 => ?_)
  exact hk_g_X12_areaOf_L30 _ _
theorem g_X12_areaOf_K154_2_f {x_57616 : Int32} {x_57617 : Int32} {k_g_X12_areaOf_L30 : (Int32) → (Int32) → Int32 × vM} {I : Nat → Int32} {J : Nat → Int64} {ri : Nat → Nat → Int32} {rj : Nat → Nat → Int64} {rq : Nat → Nat → Option Nat} (hk_g_X12_areaOf_L30 : ∀ (x_57616 : Int32) (x_57617 : Int32), FRG Prod.snd w_X12_areaOf (I, J, ri, rj, rq) (k_g_X12_areaOf_L30 x_57616 x_57617)) : FRG Prod.snd w_X12_areaOf (I, J, ri, rj, rq) (g_X12_areaOf_K154_2 x_57616 x_57617 k_g_X12_areaOf_L30 ) := by
  rw [g_X12_areaOf_K154_2_e]
  refine fg_ap (fun x_59776 => ?_)
  refine fg_ap (fun x_59777 => ?_)
  exact hk_g_X12_areaOf_L30 _ _
theorem g_X12_areaOf_K142_f {x_57616 : Int32} {x_57617 : Int32} {k_g_X12_areaOf_L30 : (Int32) → (Int32) → Int32 × vM} {x_59593 : Int32} {I : Nat → Int32} {J : Nat → Int64} {ri : Nat → Nat → Int32} {rj : Nat → Nat → Int64} {rq : Nat → Nat → Option Nat} (hk_g_X12_areaOf_L30 : ∀ (x_57616 : Int32) (x_57617 : Int32), FRG Prod.snd w_X12_areaOf (I, J, ri, rj, rq) (k_g_X12_areaOf_L30 x_57616 x_57617)) : FRG Prod.snd w_X12_areaOf (I, J, ri, rj, rq) (g_X12_areaOf_K142 x_57616 x_57617 k_g_X12_areaOf_L30 x_59593 ) := by
  rw [g_X12_areaOf_K142_e]
  refine fg_if ?_ ?_
  · exact g_X12_areaOf_K154_f hk_g_X12_areaOf_L30
  · exact g_X12_areaOf_K154_2_f hk_g_X12_areaOf_L30
theorem g_X12_areaOf_K134_f {x_59594 : Int32} {k_g_X12_areaOf_L44 : (Int32) → (Int32) → Int32 × vM} {I : Nat → Int32} {J : Nat → Int64} {ri : Nat → Nat → Int32} {rj : Nat → Nat → Int64} {rq : Nat → Nat → Option Nat} (hk_g_X12_areaOf_L44 : ∀ (x_59593 : Int32) (x_59594 : Int32), FRG Prod.snd w_X12_areaOf (I, J, ri, rj, rq) (k_g_X12_areaOf_L44 x_59593 x_59594)) : FRG Prod.snd w_X12_areaOf (I, J, ri, rj, rq) (g_X12_areaOf_K134 x_59594 k_g_X12_areaOf_L44 ) := by
  rw [g_X12_areaOf_K134_e]
  refine fg_ap (fun x_59854 => ?_)
  exact hk_g_X12_areaOf_L44 _ _
theorem g_X12_areaOf_K134_2_f {x_59594 : Int32} {k_g_X12_areaOf_L44 : (Int32) → (Int32) → Int32 × vM} {I : Nat → Int32} {J : Nat → Int64} {ri : Nat → Nat → Int32} {rj : Nat → Nat → Int64} {rq : Nat → Nat → Option Nat} (hk_g_X12_areaOf_L44 : ∀ (x_59593 : Int32) (x_59594 : Int32), FRG Prod.snd w_X12_areaOf (I, J, ri, rj, rq) (k_g_X12_areaOf_L44 x_59593 x_59594)) : FRG Prod.snd w_X12_areaOf (I, J, ri, rj, rq) (g_X12_areaOf_K134_2 x_59594 k_g_X12_areaOf_L44 ) := by
  rw [g_X12_areaOf_K134_2_e]
  refine fg_ap (fun x_59857 => ?_)
  exact hk_g_X12_areaOf_L44 _ _
theorem g_X12_areaOf_K133_f {x_59594 : Int32} {k_g_X12_areaOf_L44 : (Int32) → (Int32) → Int32 × vM} {I : Nat → Int32} {J : Nat → Int64} {ri : Nat → Nat → Int32} {rj : Nat → Nat → Int64} {rq : Nat → Nat → Option Nat} (hk_g_X12_areaOf_L44 : ∀ (x_59593 : Int32) (x_59594 : Int32), FRG Prod.snd w_X12_areaOf (I, J, ri, rj, rq) (k_g_X12_areaOf_L44 x_59593 x_59594)) : FRG Prod.snd w_X12_areaOf (I, J, ri, rj, rq) (g_X12_areaOf_K133 x_59594 k_g_X12_areaOf_L44 ) := by
  rw [g_X12_areaOf_K133_e]
  exact g_X12_areaOf_K134_2_f hk_g_X12_areaOf_L44
theorem g_X12_areaOf_L44_f {I : Nat → Int32} {J : Nat → Int64} {ri : Nat → Nat → Int32} {rj : Nat → Nat → Int64} {rq : Nat → Nat → Option Nat} {x_19 : Int32} {x_57616 : Int32} {x_57617 : Int32} {k_g_X12_areaOf_L30 : (Int32) → (Int32) → Int32 × vM} (hk_g_X12_areaOf_L30 : ∀ (x_57616 : Int32) (x_57617 : Int32), FRG Prod.snd w_X12_areaOf (I, J, ri, rj, rq) (k_g_X12_areaOf_L30 x_57616 x_57617)) : ∀ (n_59671 : Nat) (x_59593 : Int32) (x_59594 : Int32), FRG Prod.snd w_X12_areaOf (I, J, ri, rj, rq) (g_X12_areaOf_L44 I J ri rj rq x_19 x_57616 x_57617 k_g_X12_areaOf_L30 n_59671 x_59593 x_59594) := by
  intro n_59671
  induction n_59671 with
  | zero => intros; exact fv_rt rfl
  | succ n_59671 ih =>
    intro x_59593 x_59594
    rw [g_X12_areaOf_L44_e]
    refine fg_ap (fun y_59679 => ?_)
    refine fg_if ?_ ?_
    · exact g_X12_areaOf_K142_f hk_g_X12_areaOf_L30
    · refine fg_if ?_ ?_
      · refine fg_ap (fun x_59806 => ?_)
        refine fg_bI g_X12_cellAt_c2_f rfl (fun x_59808 I_z1 J_z1 ri_z1 rj_z1 rq_z1 h_1 => ?_)
        rw [fe_I h_1, fe_J h_1, fe_ri h_1, fe_rj h_1, fe_rq h_1]
        refine fg_ap (fun x_59815 => ?_)
        refine fg_ap (fun x_59816 => ?_)
        refine fg_bI g_X12_cellAt_c3_f rfl (fun x_59818 I_z2 J_z2 ri_z2 rj_z2 rq_z2 h_2 => ?_)
        rw [fe_I h_2, fe_J h_2, fe_ri h_2, fe_rj h_2, fe_rq h_2]
        refine fg_ap (fun x_59825 => ?_)
        refine fg_ap (fun x_59826 => ?_)
        refine fg_ap (fun x_59827 => ?_)
        refine fg_ap (fun x_59828 => ?_)
        refine fg_ap (fun x_59829 => ?_)
        refine fg_ap (fun x_59830 => ?_)
        refine fg_if ?_ ?_
        · exact g_X12_areaOf_K133_f ih
        · refine fg_bI g_X12_wasRock_f rfl (fun x_59869 I_z3 J_z3 ri_z3 rj_z3 rq_z3 h_3 => ?_)
          rw [fe_I h_3, fe_J h_3, fe_ri h_3, fe_rj h_3, fe_rq h_3]
          refine fg_if ?_ ?_
          · exact g_X12_areaOf_K133_f ih
          · exact g_X12_areaOf_K134_f ih
      · exact g_X12_areaOf_K142_f hk_g_X12_areaOf_L30
theorem g_X12_areaOf_L30_f {I : Nat → Int32} {J : Nat → Int64} {ri : Nat → Nat → Int32} {rj : Nat → Nat → Int64} {rq : Nat → Nat → Option Nat} {x_19 : Int32}  : ∀ (n_58679 : Nat) (x_57616 : Int32) (x_57617 : Int32), FRG Prod.snd w_X12_areaOf (I, J, ri, rj, rq) (g_X12_areaOf_L30 I J ri rj rq x_19 n_58679 x_57616 x_57617) := by
  intro n_58679
  induction n_58679 with
  | zero => intros; exact fv_rt rfl
  | succ n_58679 ih =>
    intro x_57616 x_57617
    rw [g_X12_areaOf_L30_e]
    refine fg_if ?_ ?_
    · exact fv_rt rfl
    · exact g_X12_areaOf_L44_f ih _ _ _
theorem g_X12_areaOf_K23_f {I : Nat → Int32} {J : Nat → Int64} {ri : Nat → Nat → Int32} {rj : Nat → Nat → Int64} {rq : Nat → Nat → Option Nat} {x_19 : Int32}  : FRG Prod.snd w_X12_areaOf (I, J, ri, rj, rq) (g_X12_areaOf_K23 I J ri rj rq x_19) := by
  rw [g_X12_areaOf_K23_e]
  exact g_X12_areaOf_L30_f  _ _ _
theorem g_X12_areaOf_K22_f {a0 : Int32} {I : Nat → Int32} {J : Nat → Int64} {ri : Nat → Nat → Int32} {rj : Nat → Nat → Int64} {rq : Nat → Nat → Option Nat}  : FRG Prod.snd w_X12_areaOf (I, J, ri, rj, rq) (g_X12_areaOf_K22 a0 I J ri rj rq ) := by
  rw [g_X12_areaOf_K22_e]
  exact g_X12_areaOf_K23_f 
theorem g_X12_areaOf_f {a0 : Int32} {I : Nat → Int32} {J : Nat → Int64} {ri : Nat → Nat → Int32} {rj : Nat → Nat → Int64} {rq : Nat → Nat → Option Nat}  : FRG Prod.snd w_X12_areaOf (I, J, ri, rj, rq) (g_X12_areaOf  a0 I J ri rj rq) := by
  rw [g_X12_areaOf_e]
  refine fg_bI g_X12_numberOf_f rfl (fun x_2 I_z4 J_z4 ri_z4 rj_z4 rq_z4 h_4 => ?_)
  rw [fe_I h_4, fe_J h_4, fe_ri h_4, fe_rj h_4, fe_rq h_4]
  refine fg_if ?_ ?_
  · exact g_X12_areaOf_K22_f 
  · refine fg_if ?_ ?_
    · exact g_X12_areaOf_K22_f 
    · exact g_X12_areaOf_K23_f 

def w_X12_personAt_c4 : wS := ([], [], [], [], [])
theorem g_X12_personAt_c4_f {a0 : Int32} {I : Nat → Int32} {J : Nat → Int64} {ri : Nat → Nat → Int32} {rj : Nat → Nat → Int64} {rq : Nat → Nat → Option Nat}  : FRG Prod.snd w_X12_personAt_c4 (I, J, ri, rj, rq) (g_X12_personAt_c4  a0 I J ri rj rq) := by
  rw [g_X12_personAt_c4_e]
  refine fg_ap (fun x_1 => ?_)
  refine fg_ap (fun x_3 => ?_)
  refine fg_ap (fun x_5 => ?_)
  refine fg_ap (fun x_7 => ?_)
  exact fv_rt rfl

def w_X12_fundGoes : wS := ([410], [], [384], [], [])
theorem g_X12_fundGoes_K141_f {x_9199 : Int32} {k_g_X12_fundGoes_L104 : (Int32) → (Nat → Nat → Int32) → vM} {J : Nat → Int64} {rj : Nat → Nat → Int64} {rq : Nat → Nat → Option Nat} {I_8658 : Nat → Int32} {ri_9297 : Nat → Nat → Int32} (hk_g_X12_fundGoes_L104 : ∀ (x_9199 : Int32) (ri_9200 : Nat → Nat → Int32), FRG id w_X12_fundGoes (I_8658, J, ri_9200, rj, rq) (k_g_X12_fundGoes_L104 x_9199 ri_9200)) : FRG id w_X12_fundGoes (I_8658, J, ri_9297, rj, rq) (g_X12_fundGoes_K141 x_9199 k_g_X12_fundGoes_L104 ri_9297) := by
  rw [g_X12_fundGoes_K141_e]
  refine fg_ap (fun x_9301 => ?_)
  exact hk_g_X12_fundGoes_L104 _ _
theorem g_X12_fundGoes_L104_f {a0 : Int32} {J : Nat → Int64} {ri : Nat → Nat → Int32} {rj : Nat → Nat → Int64} {rq : Nat → Nat → Option Nat} {I_8658 : Nat → Int32}  : ∀ (n_9243 : Nat) (x_9199 : Int32) (ri_9200 : Nat → Nat → Int32), FRG id w_X12_fundGoes (I_8658, J, ri_9200, rj, rq) (g_X12_fundGoes_L104 a0 J ri rj rq I_8658 n_9243 x_9199 ri_9200) := by
  intro n_9243
  induction n_9243 with
  | zero => intros; exact fv_rt rfl
  | succ n_9243 ih =>
    intro x_9199 ri_9200
    rw [g_X12_fundGoes_L104_e]
    refine fg_ap (fun y_9249 => ?_)
    refine fg_if ?_ ?_
    · refine fg_ap (fun x_9256 => ?_)
      refine fg_if ?_ ?_
      · refine fg_I rfl (fun I_9264 => ?_)
        refine fg_ap (fun x_9265 => ?_)
        refine fg_if ?_ ?_
        · exact fv_rt rfl
        · refine fg_ri rfl (fun r_9275 => ?_)
          exact fv_rt rfl
      · exact fv_rt rfl
    · refine fg_bI g_X12_cellAt_c6_f rfl (fun x_9281 I_z1 J_z1 ri_z1 rj_z1 rq_z1 h_1 => ?_)
      rw [fe_I h_1, fe_J h_1, fe_ri h_1, fe_rj h_1, fe_rq h_1]
      refine fg_if ?_ ?_
      · exact g_X12_fundGoes_K141_f ih
      · refine fg_ap (fun x_9312 => ?_)
        refine fg_ap (fun x_9313 => ?_)
        refine fg_ap (fun x_9314 => ?_)
        refine fg_ri rfl (fun r_9315 => ?_)
        exact g_X12_fundGoes_K141_f ih
theorem g_X12_fundGoes_K40_f {x_7978 : Int32} {k_g_X12_fundGoes_L2 : (Int32) → (Nat → Nat → Int32) → vM} {I : Nat → Int32} {J : Nat → Int64} {rj : Nat → Nat → Int64} {rq : Nat → Nat → Option Nat} {ri_9346 : Nat → Nat → Int32} (hk_g_X12_fundGoes_L2 : ∀ (x_7978 : Int32) (ri_7979 : Nat → Nat → Int32), FRG id w_X12_fundGoes (I, J, ri_7979, rj, rq) (k_g_X12_fundGoes_L2 x_7978 ri_7979)) : FRG id w_X12_fundGoes (I, J, ri_9346, rj, rq) (g_X12_fundGoes_K40 x_7978 k_g_X12_fundGoes_L2 ri_9346) := by
  rw [g_X12_fundGoes_K40_e]
  refine fg_ap (fun x_9350 => ?_)
  exact hk_g_X12_fundGoes_L2 _ _
theorem g_X12_fundGoes_L2_f {a0 : Int32} {I : Nat → Int32} {J : Nat → Int64} {ri : Nat → Nat → Int32} {rj : Nat → Nat → Int64} {rq : Nat → Nat → Option Nat}  : ∀ (n_8644 : Nat) (x_7978 : Int32) (ri_7979 : Nat → Nat → Int32), FRG id w_X12_fundGoes (I, J, ri_7979, rj, rq) (g_X12_fundGoes_L2 a0 I J ri rj rq n_8644 x_7978 ri_7979) := by
  intro n_8644
  induction n_8644 with
  | zero => intros; exact fv_rt rfl
  | succ n_8644 ih =>
    intro x_7978 ri_7979
    rw [g_X12_fundGoes_L2_e]
    refine fg_ap (fun y_8651 => ?_)
    refine fg_if ?_ ?_
    · refine fg_I rfl (fun I_8658 => ?_)
      refine fg_ap (fun y_8659 => ?_)
      refine fg_if ?_ ?_
      · exact fv_rt rfl
      · refine fg_bI g_X12_areaOf_f rfl (fun x_8665 I_z2 J_z2 ri_z2 rj_z2 rq_z2 h_2 => ?_)
        rw [fe_I h_2, fe_J h_2, fe_ri h_2, fe_rj h_2, fe_rq h_2]
        refine fg_ri rfl (fun r_8672 => ?_)
        refine fg_ap (fun x_8673 => ?_)
        refine fg_bI g_X12_numberOf_f rfl (fun x_8674 I_z3 J_z3 ri_z3 rj_z3 rq_z3 h_3 => ?_)
        rw [fe_I h_3, fe_J h_3, fe_ri h_3, fe_rj h_3, fe_rq h_3]
        refine fg_ap (fun x_8681 => ?_)
        refine fg_ap (fun x_8682 => ?_)
        refine fg_ap (fun x_8683 => ?_)
        refine fg_ap (fun x_8684 => ?_)
        refine fg_ri rfl (fun r_8685 => ?_)
        exact g_X12_fundGoes_L104_f  _ _ _
    · refine fg_bI g_X12_personAt_c3_f rfl (fun x_9321 I_z4 J_z4 ri_z4 rj_z4 rq_z4 h_4 => ?_)
      rw [fe_I h_4, fe_J h_4, fe_ri h_4, fe_rj h_4, fe_rq h_4]
      refine fg_if ?_ ?_
      · refine fg_ap (fun x_9359 => ?_)
        refine fg_bI g_X12_personAt_c4_f rfl (fun x_9360 I_z5 J_z5 ri_z5 rj_z5 rq_z5 h_5 => ?_)
        rw [fe_I h_5, fe_J h_5, fe_ri h_5, fe_rj h_5, fe_rq h_5]
        refine fg_ap (fun x_9368 => ?_)
        refine fg_ri rfl (fun r_9369 => ?_)
        exact g_X12_fundGoes_K40_f ih
      · exact g_X12_fundGoes_K40_f ih
theorem g_X12_fundGoes_f {a0 : Int32} {I : Nat → Int32} {J : Nat → Int64} {ri : Nat → Nat → Int32} {rj : Nat → Nat → Int64} {rq : Nat → Nat → Option Nat}  : FRG id w_X12_fundGoes (I, J, ri, rj, rq) (g_X12_fundGoes  a0 I J ri rj rq) := by
  rw [g_X12_fundGoes_e]
  exact g_X12_fundGoes_L2_f  _ _ _

def w_X12_goesAhead : wS := ([], [], [], [], [])
theorem g_X12_goesAhead_K58_f {I : Nat → Int32} {J : Nat → Int64} {ri : Nat → Nat → Int32} {rj : Nat → Nat → Int64} {rq : Nat → Nat → Option Nat}  : FRG Prod.snd w_X12_goesAhead (I, J, ri, rj, rq) (g_X12_goesAhead_K58 I J ri rj rq ) := by
  rw [g_X12_goesAhead_K58_e]
  exact fv_rt rfl
theorem g_X12_goesAhead_f {a0 : Int32} {a1 : Int32} {a2 : Int32} {a3 : Int32} {I : Nat → Int32} {J : Nat → Int64} {ri : Nat → Nat → Int32} {rj : Nat → Nat → Int64} {rq : Nat → Nat → Option Nat}  : FRG Prod.snd w_X12_goesAhead (I, J, ri, rj, rq) (g_X12_goesAhead  a0 a1 a2 a3 I J ri rj rq) := by
  rw [g_X12_goesAhead_e]
  refine fg_ap (fun y_1 => ?_)
  refine fg_if ?_ ?_
  · refine fg_bI g_X12_personAt_c3_f rfl (fun x_55 I_z1 J_z1 ri_z1 rj_z1 rq_z1 h_1 => ?_)
    rw [fe_I h_1, fe_J h_1, fe_ri h_1, fe_rj h_1, fe_rq h_1]
    refine fg_ap (fun x_66 => ?_)
    refine fg_bI g_X12_personAt_c3_f rfl (fun x_67 I_z2 J_z2 ri_z2 rj_z2 rq_z2 h_2 => ?_)
    rw [fe_I h_2, fe_J h_2, fe_ri h_2, fe_rj h_2, fe_rq h_2]
    refine fg_ap (fun x_78 => ?_)
    refine fg_if ?_ ?_
    · exact fv_rt rfl
    · exact fv_rt rfl
  · refine fg_if ?_ ?_
    · exact g_X12_goesAhead_K58_f 
    · refine fg_bI g_X12_isAhead_f rfl (fun x_35 I_z3 J_z3 ri_z3 rj_z3 rq_z3 h_3 => ?_)
      rw [fe_I h_3, fe_J h_3, fe_ri h_3, fe_rj h_3, fe_rq h_3]
      refine fg_if ?_ ?_
      · exact g_X12_goesAhead_K58_f 
      · exact fv_rt rfl

def w_X12_sails : wS := ([], [], [384], [], [])
theorem g_X12_sails_f {a0 : Int32} {a1 : Int32} {a2 : Int32} {I : Nat → Int32} {J : Nat → Int64} {ri : Nat → Nat → Int32} {rj : Nat → Nat → Int64} {rq : Nat → Nat → Option Nat}  : FRG id w_X12_sails (I, J, ri, rj, rq) (g_X12_sails  a0 a1 a2 I J ri rj rq) := by
  rw [g_X12_sails_e]
  refine fg_ap (fun x_2 => ?_)
  refine fg_ap (fun x_4 => ?_)
  refine fg_ap (fun x_6 => ?_)
  refine fg_ap (fun x_8 => ?_)
  refine fg_ri rfl (fun r_10 => ?_)
  refine fg_ap (fun x_11 => ?_)
  refine fg_ap (fun x_13 => ?_)
  refine fg_ap (fun x_15 => ?_)
  refine fg_ri rfl (fun r_17 => ?_)
  exact fv_rt rfl

def w_X12_isOfKin : wS := ([], [], [], [], [])
theorem g_X12_isOfKin_K39_f {I : Nat → Int32} {J : Nat → Int64} {ri : Nat → Nat → Int32} {rj : Nat → Nat → Int64} {rq : Nat → Nat → Option Nat}  : FRG Prod.snd w_X12_isOfKin (I, J, ri, rj, rq) (g_X12_isOfKin_K39 I J ri rj rq ) := by
  rw [g_X12_isOfKin_K39_e]
  exact fv_rt rfl
theorem g_X12_isOfKin_K43_f {I : Nat → Int32} {J : Nat → Int64} {ri : Nat → Nat → Int32} {rj : Nat → Nat → Int64} {rq : Nat → Nat → Option Nat}  : FRG Prod.snd w_X12_isOfKin (I, J, ri, rj, rq) (g_X12_isOfKin_K43 I J ri rj rq ) := by
  rw [g_X12_isOfKin_K43_e]
  exact fv_rt rfl
theorem g_X12_isOfKin_f {a0 : Int32} {a1 : Int32} {a2 : Int32} {I : Nat → Int32} {J : Nat → Int64} {ri : Nat → Nat → Int32} {rj : Nat → Nat → Int64} {rq : Nat → Nat → Option Nat}  : FRG Prod.snd w_X12_isOfKin (I, J, ri, rj, rq) (g_X12_isOfKin  a0 a1 a2 I J ri rj rq) := by
  rw [g_X12_isOfKin_e]
  refine fg_if ?_ ?_
  · exact g_X12_isOfKin_K39_f 
  · refine fg_ap (fun x_53 => ?_)
    refine fg_if ?_ ?_
    · refine fg_bI g_X12_personAt_c0_f rfl (fun x_105 I_z1 J_z1 ri_z1 rj_z1 rq_z1 h_1 => ?_)
      rw [fe_I h_1, fe_J h_1, fe_ri h_1, fe_rj h_1, fe_rq h_1]
      refine fg_bI g_X12_personAt_c0_f rfl (fun x_113 I_z2 J_z2 ri_z2 rj_z2 rq_z2 h_2 => ?_)
      rw [fe_I h_2, fe_J h_2, fe_ri h_2, fe_rj h_2, fe_rq h_2]
      refine fg_if ?_ ?_
      · refine fg_bI g_X12_personAt_c3_f rfl (fun x_126 I_z3 J_z3 ri_z3 rj_z3 rq_z3 h_3 => ?_)
        rw [fe_I h_3, fe_J h_3, fe_ri h_3, fe_rj h_3, fe_rq h_3]
        refine fg_if ?_ ?_
        · exact g_X12_isOfKin_K39_f 
        · exact g_X12_isOfKin_K43_f 
      · exact g_X12_isOfKin_K43_f 
    · exact g_X12_isOfKin_K43_f 

def w_X12_family : wS := ([], [], [384, 412], [], [])
theorem g_X12_family_K187_f {I : Nat → Int32} {J : Nat → Int64} {rj : Nat → Nat → Int64} {rq : Nat → Nat → Option Nat} {x_187655 : Int32} {ri_208453 : Nat → Nat → Int32}  : FRG Prod.snd w_X12_family (I, J, ri_208453, rj, rq) (g_X12_family_K187 I J rj rq x_187655 ri_208453) := by
  rw [g_X12_family_K187_e]
  exact fv_rt rfl
theorem g_X12_family_K168_f {x_208383 : Int32} {k_g_X12_family_L111 : (Int32) → (Nat → Nat → Int32) → Int32 × vM} {I : Nat → Int32} {J : Nat → Int64} {rj : Nat → Nat → Int64} {rq : Nat → Nat → Option Nat} {ri_208496 : Nat → Nat → Int32} (hk_g_X12_family_L111 : ∀ (x_208383 : Int32) (ri_208384 : Nat → Nat → Int32), FRG Prod.snd w_X12_family (I, J, ri_208384, rj, rq) (k_g_X12_family_L111 x_208383 ri_208384)) : FRG Prod.snd w_X12_family (I, J, ri_208496, rj, rq) (g_X12_family_K168 x_208383 k_g_X12_family_L111 ri_208496) := by
  rw [g_X12_family_K168_e]
  refine fg_ap (fun x_208500 => ?_)
  exact hk_g_X12_family_L111 _ _
theorem g_X12_family_L111_f {a0 : Int32} {a1 : Int32} {I : Nat → Int32} {J : Nat → Int64} {rj : Nat → Nat → Int64} {rq : Nat → Nat → Option Nat} {x_2 : Int32} {x_187655 : Int32} {y_197153 : Int32} {x_204252 : Int32}  : ∀ (n_208433 : Nat) (x_208383 : Int32) (ri_208384 : Nat → Nat → Int32), FRG Prod.snd w_X12_family (I, J, ri_208384, rj, rq) (g_X12_family_L111 a0 a1 I J rj rq x_2 x_187655 y_197153 x_204252 n_208433 x_208383 ri_208384) := by
  intro n_208433
  induction n_208433 with
  | zero => intros; exact fv_rt rfl
  | succ n_208433 ih =>
    intro x_208383 ri_208384
    rw [g_X12_family_L111_e]
    refine fg_if ?_ ?_
    · refine fg_bV g_X12_sails_f rfl (fun I_z1 J_z1 ri_208460 rj_z1 rq_z1 h_1 => ?_)
      rw [fe_I h_1, fe_J h_1, fe_rj h_1, fe_rq h_1]
      exact g_X12_family_K187_f 
    · refine fg_bI g_X12_isOfKin_f rfl (fun x_208469 I_z2 J_z2 ri_z2 rj_z2 rq_z2 h_2 => ?_)
      rw [fe_I h_2, fe_J h_2, fe_ri h_2, fe_rj h_2, fe_rq h_2]
      refine fg_if ?_ ?_
      · exact g_X12_family_K168_f ih
      · refine fg_ri rfl (fun r_208510 => ?_)
        refine fg_if ?_ ?_
        · exact g_X12_family_K168_f ih
        · refine fg_bV g_X12_sails_f rfl (fun I_z3 J_z3 ri_208518 rj_z3 rq_z3 h_3 => ?_)
          rw [fe_I h_3, fe_J h_3, fe_rj h_3, fe_rq h_3]
          exact g_X12_family_K168_f ih
theorem g_X12_family_K106_f {a0 : Int32} {a1 : Int32} {I : Nat → Int32} {J : Nat → Int64} {ri : Nat → Nat → Int32} {rj : Nat → Nat → Int64} {rq : Nat → Nat → Option Nat} {x_2 : Int32} {x_187655 : Int32} {y_197153 : Int32} {x_204252 : Int32}  : FRG Prod.snd w_X12_family (I, J, ri, rj, rq) (g_X12_family_K106 a0 a1 I J ri rj rq x_2 x_187655 y_197153 x_204252 ) := by
  rw [g_X12_family_K106_e]
  exact g_X12_family_L111_f  _ _ _
theorem g_X12_family_K187_2_f {I : Nat → Int32} {J : Nat → Int64} {rj : Nat → Nat → Int64} {rq : Nat → Nat → Option Nat} {ri_208920 : Nat → Nat → Int32}  : FRG Prod.snd w_X12_family (I, J, ri_208920, rj, rq) (g_X12_family_K187_2 I J rj rq ri_208920 ) := by
  rw [g_X12_family_K187_2_e]
  exact fv_rt rfl
theorem g_X12_family_K168_2_f {x_208919 : Int32} {k_g_X12_family_L111_2 : (Int32) → (Nat → Nat → Int32) → Int32 × vM} {I : Nat → Int32} {J : Nat → Int64} {rj : Nat → Nat → Int64} {rq : Nat → Nat → Option Nat} {ri_208990 : Nat → Nat → Int32} (hk_g_X12_family_L111_2 : ∀ (x_208919 : Int32) (ri_208920 : Nat → Nat → Int32), FRG Prod.snd w_X12_family (I, J, ri_208920, rj, rq) (k_g_X12_family_L111_2 x_208919 ri_208920)) : FRG Prod.snd w_X12_family (I, J, ri_208990, rj, rq) (g_X12_family_K168_2 x_208919 k_g_X12_family_L111_2 ri_208990) := by
  rw [g_X12_family_K168_2_e]
  refine fg_ap (fun x_208994 => ?_)
  exact hk_g_X12_family_L111_2 _ _
theorem g_X12_family_L111_2_f {a0 : Int32} {I : Nat → Int32} {J : Nat → Int64} {rj : Nat → Nat → Int64} {rq : Nat → Nat → Option Nat} {x_2 : Int32} {y_197153 : Int32}  : ∀ (n_208952 : Nat) (x_208919 : Int32) (ri_208920 : Nat → Nat → Int32), FRG Prod.snd w_X12_family (I, J, ri_208920, rj, rq) (g_X12_family_L111_2 a0 I J rj rq x_2 y_197153 n_208952 x_208919 ri_208920) := by
  intro n_208952
  induction n_208952 with
  | zero => intros; exact fv_rt rfl
  | succ n_208952 ih =>
    intro x_208919 ri_208920
    rw [g_X12_family_L111_2_e]
    refine fg_if ?_ ?_
    · exact g_X12_family_K187_2_f 
    · refine fg_bI g_X12_isOfKin_f rfl (fun x_208971 I_z4 J_z4 ri_z4 rj_z4 rq_z4 h_4 => ?_)
      rw [fe_I h_4, fe_J h_4, fe_ri h_4, fe_rj h_4, fe_rq h_4]
      refine fg_if ?_ ?_
      · exact g_X12_family_K168_2_f ih
      · refine fg_ri rfl (fun r_209004 => ?_)
        refine fg_if ?_ ?_
        · exact g_X12_family_K168_2_f ih
        · exact g_X12_family_K168_2_f ih
theorem g_X12_family_K106_2_f {a0 : Int32} {I : Nat → Int32} {J : Nat → Int64} {ri : Nat → Nat → Int32} {rj : Nat → Nat → Int64} {rq : Nat → Nat → Option Nat} {x_2 : Int32} {y_197153 : Int32}  : FRG Prod.snd w_X12_family (I, J, ri, rj, rq) (g_X12_family_K106_2 a0 I J ri rj rq x_2 y_197153 ) := by
  rw [g_X12_family_K106_2_e]
  exact g_X12_family_L111_2_f  _ _ _
theorem g_X12_family_K105_f {a0 : Int32} {I : Nat → Int32} {J : Nat → Int64} {ri : Nat → Nat → Int32} {rj : Nat → Nat → Int64} {rq : Nat → Nat → Option Nat} {x_2 : Int32} {y_197153 : Int32}  : FRG Prod.snd w_X12_family (I, J, ri, rj, rq) (g_X12_family_K105 a0 I J ri rj rq x_2 y_197153 ) := by
  rw [g_X12_family_K105_e]
  exact g_X12_family_K106_2_f 
theorem g_X12_family_K84_f {a0 : Int32} {a1 : Int32} {a2 : Int32} {I : Nat → Int32} {J : Nat → Int64} {ri : Nat → Nat → Int32} {rj : Nat → Nat → Int64} {rq : Nat → Nat → Option Nat} {x_2 : Int32} {x_187655 : Int32} {y_197153 : Int32} {x_204252 : Int32} {y_205442 : Int32}  : FRG Prod.snd w_X12_family (I, J, ri, rj, rq) (g_X12_family_K84 a0 a1 a2 I J ri rj rq x_2 x_187655 y_197153 x_204252 y_205442 ) := by
  rw [g_X12_family_K84_e]
  refine fg_if ?_ ?_
  · exact g_X12_family_K105_f 
  · refine fg_if ?_ ?_
    · exact g_X12_family_K105_f 
    · exact g_X12_family_K106_f 
theorem g_X12_family_L56_f {a0 : Int32} {a1 : Int32} {a2 : Int32} {I : Nat → Int32} {J : Nat → Int64} {ri : Nat → Nat → Int32} {rj : Nat → Nat → Int64} {rq : Nat → Nat → Option Nat} {x_2 : Int32} {x_187655 : Int32} {y_197153 : Int32}  : ∀ (n_205436 : Nat) (x_204252 : Int32), FRG Prod.snd w_X12_family (I, J, ri, rj, rq) (g_X12_family_L56 a0 a1 a2 I J ri rj rq x_2 x_187655 y_197153 n_205436 x_204252) := by
  intro n_205436
  induction n_205436 with
  | zero => intros; exact fv_rt rfl
  | succ n_205436 ih =>
    intro x_204252
    rw [g_X12_family_L56_e]
    refine fg_ap (fun y_205442 => ?_)
    refine fg_if ?_ ?_
    · exact g_X12_family_K84_f 
    · refine fg_bI g_X12_freeIn_f rfl (fun x_209041 I_z5 J_z5 ri_z5 rj_z5 rq_z5 h_5 => ?_)
      rw [fe_I h_5, fe_J h_5, fe_ri h_5, fe_rj h_5, fe_rq h_5]
      refine fg_if ?_ ?_
      · exact g_X12_family_K84_f 
      · refine fg_ap (fun x_209057 => ?_)
        exact ih _
theorem g_X12_family_K44_f {x_187655 : Int32} {x_187656 : Int32} {k_g_X12_family_L14 : (Int32) → (Int32) → Int32 × vM} {I : Nat → Int32} {J : Nat → Int64} {ri : Nat → Nat → Int32} {rj : Nat → Nat → Int64} {rq : Nat → Nat → Option Nat} (hk_g_X12_family_L14 : ∀ (x_187655 : Int32) (x_187656 : Int32), FRG Prod.snd w_X12_family (I, J, ri, rj, rq) (k_g_X12_family_L14 x_187655 x_187656)) : FRG Prod.snd w_X12_family (I, J, ri, rj, rq) (g_X12_family_K44 x_187655 x_187656 k_g_X12_family_L14 ) := by
  rw [g_X12_family_K44_e]
  refine fg_ap (fun x_209087 => ?_)
  refine fg_ap (fun x_209089 => ?_)
  exact hk_g_X12_family_L14 _ _
theorem g_X12_family_K44_2_f {x_187655 : Int32} {x_187656 : Int32} {k_g_X12_family_L14 : (Int32) → (Int32) → Int32 × vM} {I : Nat → Int32} {J : Nat → Int64} {ri : Nat → Nat → Int32} {rj : Nat → Nat → Int64} {rq : Nat → Nat → Option Nat} (hk_g_X12_family_L14 : ∀ (x_187655 : Int32) (x_187656 : Int32), FRG Prod.snd w_X12_family (I, J, ri, rj, rq) (k_g_X12_family_L14 x_187655 x_187656)) : FRG Prod.snd w_X12_family (I, J, ri, rj, rq) (g_X12_family_K44_2 x_187655 x_187656 k_g_X12_family_L14 ) := by
  rw [g_X12_family_K44_2_e]
  refine fg_ap (fun x_209094 => ?_)
  refine fg_ap (fun x_209095 => ?_)
  exact hk_g_X12_family_L14 _ _
theorem g_X12_family_L14_f {a0 : Int32} {a1 : Int32} {a2 : Int32} {I : Nat → Int32} {J : Nat → Int64} {ri : Nat → Nat → Int32} {rj : Nat → Nat → Int64} {rq : Nat → Nat → Option Nat} {x_2 : Int32}  : ∀ (n_197147 : Nat) (x_187655 : Int32) (x_187656 : Int32), FRG Prod.snd w_X12_family (I, J, ri, rj, rq) (g_X12_family_L14 a0 a1 a2 I J ri rj rq x_2 n_197147 x_187655 x_187656) := by
  intro n_197147
  induction n_197147 with
  | zero => intros; exact fv_rt rfl
  | succ n_197147 ih =>
    intro x_187655 x_187656
    rw [g_X12_family_L14_e]
    refine fg_ap (fun y_197153 => ?_)
    refine fg_if ?_ ?_
    · exact g_X12_family_L56_f  _ _
    · refine fg_bI g_X12_isOfKin_f rfl (fun x_209062 I_z6 J_z6 ri_z6 rj_z6 rq_z6 h_6 => ?_)
      rw [fe_I h_6, fe_J h_6, fe_ri h_6, fe_rj h_6, fe_rq h_6]
      refine fg_if ?_ ?_
      · exact g_X12_family_K44_f ih
      · exact g_X12_family_K44_2_f ih
theorem g_X12_family_f {a0 : Int32} {a1 : Int32} {a2 : Int32} {I : Nat → Int32} {J : Nat → Int64} {ri : Nat → Nat → Int32} {rj : Nat → Nat → Int64} {rq : Nat → Nat → Option Nat}  : FRG Prod.snd w_X12_family (I, J, ri, rj, rq) (g_X12_family  a0 a1 a2 I J ri rj rq) := by
  rw [g_X12_family_e]
  refine fg_bI g_X12_personAt_c3_f rfl (fun x_2 I_z7 J_z7 ri_z7 rj_z7 rq_z7 h_7 => ?_)
  rw [fe_I h_7, fe_J h_7, fe_ri h_7, fe_rj h_7, fe_rq h_7]
  exact g_X12_family_L14_f  _ _ _

def w_X12_boatsGo : wS := ([406], [], [384, 405, 411, 412], [404], [])
theorem g_X12_boatsGo_K182_f {x_7200 : Int32} {k_g_X12_boatsGo_L142 : (Int32) → (Int32) → (Nat → Nat → Int32) → vM} {J : Nat → Int64} {rq : Nat → Nat → Option Nat} {I_3 : Nat → Int32} {rj_6089 : Nat → Nat → Int64} {x_7266 : Int32} {ri_7267 : Nat → Nat → Int32} (hk_g_X12_boatsGo_L142 : ∀ (x_7199 : Int32) (x_7200 : Int32) (ri_7201 : Nat → Nat → Int32), FRG id w_X12_boatsGo (I_3, J, ri_7201, rj_6089, rq) (k_g_X12_boatsGo_L142 x_7199 x_7200 ri_7201)) : FRG id w_X12_boatsGo (I_3, J, ri_7267, rj_6089, rq) (g_X12_boatsGo_K182 x_7200 k_g_X12_boatsGo_L142 x_7266 ri_7267) := by
  rw [g_X12_boatsGo_K182_e]
  refine fg_ap (fun x_7271 => ?_)
  exact hk_g_X12_boatsGo_L142 _ _ _
theorem g_X12_boatsGo_L142_f {a0 : Int32} {J : Nat → Int64} {rq : Nat → Nat → Option Nat} {I_3 : Nat → Int32} {x_6086 : Int32} {rj_6089 : Nat → Nat → Int64}  : ∀ (n_7232 : Nat) (x_7199 : Int32) (x_7200 : Int32) (ri_7201 : Nat → Nat → Int32), FRG id w_X12_boatsGo (I_3, J, ri_7201, rj_6089, rq) (g_X12_boatsGo_L142 a0 J rq I_3 x_6086 rj_6089 n_7232 x_7199 x_7200 ri_7201) := by
  intro n_7232
  induction n_7232 with
  | zero => intros; exact fv_rt rfl
  | succ n_7232 ih =>
    intro x_7199 x_7200 ri_7201
    rw [g_X12_boatsGo_L142_e]
    refine fg_if ?_ ?_
    · exact fv_rt rfl
    · refine fg_ap (fun x_7248 => ?_)
      refine fg_ap (fun x_7250 => ?_)
      refine fg_if ?_ ?_
      · refine fg_bI g_X12_family_f rfl (fun x_7282 I_z1 J_z1 ri_7284 rj_z1 rq_z1 h_1 => ?_)
        rw [fe_I h_1, fe_J h_1, fe_rj h_1, fe_rq h_1]
        refine fg_ap (fun x_7290 => ?_)
        exact g_X12_boatsGo_K182_f ih
      · exact g_X12_boatsGo_K182_f ih
theorem g_X12_boatsGo_K112_f {x_6086 : Int32} {x_6087 : Int32} {k_g_X12_boatsGo_L12 : (Int32) → (Int32) → (Nat → Nat → Int32) → (Nat → Nat → Int64) → vM} {rj_7321 : Nat → Nat → Int64} {x_7465 : Int32} {ri_7466 : Nat → Nat → Int32} {J : Nat → Int64} {rq : Nat → Nat → Option Nat} {I_3 : Nat → Int32} (hk_g_X12_boatsGo_L12 : ∀ (x_6086 : Int32) (x_6087 : Int32) (ri_6088 : Nat → Nat → Int32) (rj_6089 : Nat → Nat → Int64), FRG id w_X12_boatsGo (I_3, J, ri_6088, rj_6089, rq) (k_g_X12_boatsGo_L12 x_6086 x_6087 ri_6088 rj_6089)) : FRG id w_X12_boatsGo (I_3, J, ri_7466, rj_7321, rq) (g_X12_boatsGo_K112 x_6086 x_6087 k_g_X12_boatsGo_L12 rj_7321 x_7465 ri_7466 ) := by
  rw [g_X12_boatsGo_K112_e]
  refine fg_ri rfl (fun r_7561 => ?_)
  refine fg_ap (fun x_7564 => ?_)
  refine fg_ap (fun x_7566 => ?_)
  exact hk_g_X12_boatsGo_L12 _ _ _ _
theorem g_X12_boatsGo_L65_f {a0 : Int32} {J : Nat → Int64} {rq : Nat → Nat → Option Nat} {I_3 : Nat → Int32} {x_1 : Int32} {x_6086 : Int32} {x_6087 : Int32} {k_g_X12_boatsGo_L12 : (Int32) → (Int32) → (Nat → Nat → Int32) → (Nat → Nat → Int64) → vM} {rj_7321 : Nat → Nat → Int64} (hk_g_X12_boatsGo_L12 : ∀ (x_6086 : Int32) (x_6087 : Int32) (ri_6088 : Nat → Nat → Int32) (rj_6089 : Nat → Nat → Int64), FRG id w_X12_boatsGo (I_3, J, ri_6088, rj_6089, rq) (k_g_X12_boatsGo_L12 x_6086 x_6087 ri_6088 rj_6089)) : ∀ (n_7510 : Nat) (x_7465 : Int32) (ri_7466 : Nat → Nat → Int32), FRG id w_X12_boatsGo (I_3, J, ri_7466, rj_7321, rq) (g_X12_boatsGo_L65 a0 J rq I_3 x_1 x_6086 x_6087 k_g_X12_boatsGo_L12 rj_7321 n_7510 x_7465 ri_7466) := by
  intro n_7510
  induction n_7510 with
  | zero => intros; exact fv_rt rfl
  | succ n_7510 ih =>
    intro x_7465 ri_7466
    rw [g_X12_boatsGo_L65_e]
    refine fg_if ?_ ?_
    · exact g_X12_boatsGo_K112_f hk_g_X12_boatsGo_L12
    · refine fg_ap (fun x_7577 => ?_)
      refine fg_ap (fun x_7579 => ?_)
      refine fg_bI g_X12_goesAhead_f rfl (fun x_7581 I_z2 J_z2 ri_z2 rj_z2 rq_z2 h_2 => ?_)
      rw [fe_I h_2, fe_J h_2, fe_ri h_2, fe_rj h_2, fe_rq h_2]
      refine fg_if ?_ ?_
      · exact g_X12_boatsGo_K112_f hk_g_X12_boatsGo_L12
      · refine fg_ap (fun x_7598 => ?_)
        refine fg_ap (fun x_7600 => ?_)
        refine fg_ri rfl (fun r_7602 => ?_)
        refine fg_ap (fun x_7604 => ?_)
        exact ih _ _
theorem g_X12_boatsGo_L12_f {a0 : Int32} {J : Nat → Int64} {ri : Nat → Nat → Int32} {rq : Nat → Nat → Option Nat} {I_3 : Nat → Int32} {x_1 : Int32}  : ∀ (n_6799 : Nat) (x_6086 : Int32) (x_6087 : Int32) (ri_6088 : Nat → Nat → Int32) (rj_6089 : Nat → Nat → Int64), FRG id w_X12_boatsGo (I_3, J, ri_6088, rj_6089, rq) (g_X12_boatsGo_L12 a0 J ri rq I_3 x_1 n_6799 x_6086 x_6087 ri_6088 rj_6089) := by
  intro n_6799
  induction n_6799 with
  | zero => intros; exact fv_rt rfl
  | succ n_6799 ih =>
    intro x_6086 x_6087 ri_6088 rj_6089
    rw [g_X12_boatsGo_L12_e]
    refine fg_ap (fun y_6811 => ?_)
    refine fg_if ?_ ?_
    · refine fg_ap (fun x_6818 => ?_)
      exact g_X12_boatsGo_L142_f  _ _ _ _
    · refine fg_ri rfl (fun r_7294 => ?_)
      refine fg_bI g_X12_isOnRing_f rfl (fun x_7295 I_z3 J_z3 ri_z3 rj_z3 rq_z3 h_3 => ?_)
      rw [fe_I h_3, fe_J h_3, fe_ri h_3, fe_rj h_3, fe_rq h_3]
      refine fg_if ?_ ?_
      · refine fg_ap (fun x_7313 => ?_)
        exact ih _ _ _ _
      · refine fg_bI g_X12_isFor_f rfl (fun x_7318 I_z4 J_z4 ri_7320 rj_7321 rq_z4 h_4 => ?_)
        rw [fe_I h_4, fe_J h_4, fe_rq h_4]
        refine fg_if ?_ ?_
        · refine fg_ap (fun x_7608 => ?_)
          exact ih _ _ _ _
        · refine fg_ri rfl (fun r_7336 => ?_)
          exact g_X12_boatsGo_L65_f ih _ _ _
theorem g_X12_boatsGo_f {a0 : Int32} {I : Nat → Int32} {J : Nat → Int64} {ri : Nat → Nat → Int32} {rj : Nat → Nat → Int64} {rq : Nat → Nat → Option Nat}  : FRG id w_X12_boatsGo (I, J, ri, rj, rq) (g_X12_boatsGo  a0 I J ri rj rq) := by
  rw [g_X12_boatsGo_e]
  refine fg_bI g_X12_keysFor_f rfl (fun x_1 I_3 J_z5 ri_z5 rj_z5 rq_z5 h_5 => ?_)
  rw [fe_J h_5, fe_ri h_5, fe_rj h_5, fe_rq h_5]
  exact g_X12_boatsGo_L12_f  _ _ _ _ _

def w_X12_month : wS := ([406, 410], [], [384, 405, 409, 411, 412], [404], [])
theorem g_X12_month_f {a0 : Int32} {I : Nat → Int32} {J : Nat → Int64} {ri : Nat → Nat → Int32} {rj : Nat → Nat → Int64} {rq : Nat → Nat → Option Nat}  : FRG id w_X12_month (I, J, ri, rj, rq) (g_X12_month  a0 I J ri rj rq) := by
  rw [g_X12_month_e]
  refine fg_ap (fun x_1 => ?_)
  refine fg_bV g_X12_reefGoes_f rfl (fun I_z1 J_z1 ri_6 rj_z1 rq_z1 h_1 => ?_)
  rw [fe_I h_1, fe_J h_1, fe_rj h_1, fe_rq h_1]
  refine fg_bV g_X12_sandGoes_f rfl (fun I_z2 J_z2 ri_14 rj_z2 rq_z2 h_2 => ?_)
  rw [fe_I h_2, fe_J h_2, fe_rj h_2, fe_rq h_2]
  refine fg_bI g_X12_levelAt_f rfl (fun x_20 I_z3 J_z3 ri_z3 rj_z3 rq_z3 h_3 => ?_)
  rw [fe_I h_3, fe_J h_3, fe_ri h_3, fe_rj h_3, fe_rq h_3]
  refine fg_bV g_X12_seaStands_f rfl (fun I_z4 J_z4 ri_29 rj_z4 rq_z4 h_4 => ?_)
  rw [fe_I h_4, fe_J h_4, fe_rj h_4, fe_rq h_4]
  refine fg_bV g_X12_drink_f rfl (fun I_z5 J_z5 ri_37 rj_z5 rq_z5 h_5 => ?_)
  rw [fe_I h_5, fe_J h_5, fe_rj h_5, fe_rq h_5]
  refine fg_bV g_X12_sleep_f rfl (fun I_z6 J_z6 ri_45 rj_z6 rq_z6 h_6 => ?_)
  rw [fe_I h_6, fe_J h_6, fe_rj h_6, fe_rq h_6]
  refine fg_bV g_X12_fundGoes_f rfl (fun I_53 J_z7 ri_54 rj_z7 rq_z7 h_7 => ?_)
  rw [fe_J h_7, fe_rj h_7, fe_rq h_7]
  refine fg_bV g_X12_boatsGo_f rfl (fun I_64 J_z8 ri_65 rj_66 rq_z8 h_8 => ?_)
  rw [fe_J h_8, fe_rq h_8]
  refine fg_ap (fun x_72 => ?_)
  refine fg_ri rfl (fun r_74 => ?_)
  exact fv_rt rfl

def w_X12_sandBehind : wS := ([406, 410], [], [384, 405, 409, 411, 412], [404], [])
theorem g_X12_sandBehind_L3_f {a0 : Int32} {a1 : Int32} {a2 : Int32} {J : Nat → Int64} {rq : Nat → Nat → Option Nat}  : ∀ (n_643 : Nat) (x_596 : Int32) (I_597 : Nat → Int32) (ri_598 : Nat → Nat → Int32) (rj_599 : Nat → Nat → Int64), FRG Prod.snd w_X12_sandBehind (I_597, J, ri_598, rj_599, rq) (g_X12_sandBehind_L3 a0 a1 a2 J rq n_643 x_596 I_597 ri_598 rj_599) := by
  intro n_643
  induction n_643 with
  | zero => intros; exact fv_rt rfl
  | succ n_643 ih =>
    intro x_596 I_597 ri_598 rj_599
    rw [g_X12_sandBehind_L3_e]
    refine fg_if ?_ ?_
    · refine fg_bI g_X12_cellAt_c4_f rfl (fun x_657 I_z1 J_z1 ri_z1 rj_z1 rq_z1 h_1 => ?_)
      rw [fe_I h_1, fe_J h_1, fe_ri h_1, fe_rj h_1, fe_rq h_1]
      refine fg_ri rfl (fun ri_666 => ?_)
      exact fv_rt rfl
    · refine fg_bV g_X12_month_f rfl (fun I_681 J_z2 ri_682 rj_683 rq_z2 h_2 => ?_)
      rw [fe_J h_2, fe_rq h_2]
      refine fg_ap (fun x_692 => ?_)
      exact ih _ _ _ _
theorem g_X12_sandBehind_f {a0 : Int32} {a1 : Int32} {a2 : Int32} {I : Nat → Int32} {J : Nat → Int64} {ri : Nat → Nat → Int32} {rj : Nat → Nat → Int64} {rq : Nat → Nat → Option Nat}  : FRG Prod.snd w_X12_sandBehind (I, J, ri, rj, rq) (g_X12_sandBehind  a0 a1 a2 I J ri rj rq) := by
  rw [g_X12_sandBehind_e]
  exact g_X12_sandBehind_L3_f  _ _ _ _ _

def w_X12_nextOrder : wS := ([], [], [414], [], [])
theorem g_X12_nextOrder_L100_f {I : Nat → Int32} {J : Nat → Int64} {rj : Nat → Nat → Int64} {rq : Nat → Nat → Option Nat}  : ∀ (n_3210 : Nat) (x_3187 : Int32) (x_3188 : Int32) (ri_3189 : Nat → Nat → Int32), FRG Prod.snd w_X12_nextOrder (I, J, ri_3189, rj, rq) (g_X12_nextOrder_L100 I J rj rq n_3210 x_3187 x_3188 ri_3189) := by
  intro n_3210
  induction n_3210 with
  | zero => intros; exact fv_rt rfl
  | succ n_3210 ih =>
    intro x_3187 x_3188 ri_3189
    rw [g_X12_nextOrder_L100_e]
    refine fg_if ?_ ?_
    · exact fv_rt rfl
    · refine fg_ap (fun x_3230 => ?_)
      refine fg_ap (fun x_3232 => ?_)
      refine fg_ri rfl (fun r_3234 => ?_)
      refine fg_ri rfl (fun r_3235 => ?_)
      refine fg_ap (fun x_3236 => ?_)
      refine fg_ap (fun x_3238 => ?_)
      exact ih _ _ _
theorem g_X12_nextOrder_L41_f {a0 : Int32} {I : Nat → Int32} {J : Nat → Int64} {ri : Nat → Nat → Int32} {rj : Nat → Nat → Int64} {rq : Nat → Nat → Option Nat} {x_1930 : Int32} {x_2595 : Int32}  : ∀ (n_3104 : Nat) (x_2980 : Int32), FRG Prod.snd w_X12_nextOrder (I, J, ri, rj, rq) (g_X12_nextOrder_L41 a0 I J ri rj rq x_1930 x_2595 n_3104 x_2980) := by
  intro n_3104
  induction n_3104 with
  | zero => intros; exact fv_rt rfl
  | succ n_3104 ih =>
    intro x_2980
    rw [g_X12_nextOrder_L41_e]
    refine fg_ap (fun x_3112 => ?_)
    refine fg_if ?_ ?_
    · refine fg_ri rfl (fun r_3120 => ?_)
      refine fg_ri rfl (fun r_3121 => ?_)
      refine fg_ap (fun x_3122 => ?_)
      refine fg_ap (fun x_3124 => ?_)
      exact g_X12_nextOrder_L100_f  _ _ _ _
    · refine fg_ap (fun x_3243 => ?_)
      exact ih _
theorem g_X12_nextOrder_L4_f {a0 : Int32} {I : Nat → Int32} {J : Nat → Int64} {ri : Nat → Nat → Int32} {rj : Nat → Nat → Int64} {rq : Nat → Nat → Option Nat}  : ∀ (n_2574 : Nat) (x_1930 : Int32), FRG Prod.snd w_X12_nextOrder (I, J, ri, rj, rq) (g_X12_nextOrder_L4 a0 I J ri rj rq n_2574 x_1930) := by
  intro n_2574
  induction n_2574 with
  | zero => intros; exact fv_rt rfl
  | succ n_2574 ih =>
    intro x_1930
    rw [g_X12_nextOrder_L4_e]
    refine fg_if ?_ ?_
    · exact fv_rt rfl
    · refine fg_ap (fun x_2595 => ?_)
      refine fg_ap (fun x_2597 => ?_)
      refine fg_ap (fun x_2599 => ?_)
      refine fg_if ?_ ?_
      · refine fg_ap (fun x_2611 => ?_)
        exact g_X12_nextOrder_L41_f  _ _
      · refine fg_ap (fun x_3249 => ?_)
        exact ih _
theorem g_X12_nextOrder_f {a0 : Int32} {I : Nat → Int32} {J : Nat → Int64} {ri : Nat → Nat → Int32} {rj : Nat → Nat → Int64} {rq : Nat → Nat → Option Nat}  : FRG Prod.snd w_X12_nextOrder (I, J, ri, rj, rq) (g_X12_nextOrder  a0 I J ri rj rq) := by
  rw [g_X12_nextOrder_e]
  refine fg_ap (fun x_1 => ?_)
  exact g_X12_nextOrder_L4_f  _ _
def b3 (x : Int32) (i : Nat) : Bool := x.toBitVec.getLsbD i
theorem b_ext {x y : Int32} (h : ∀ i, i < 32 → b3 x i = b3 y i) : x = y := Int32.toBitVec_inj.mp (BitVec.eq_of_getLsbD_eq (fun i hi => h i hi))
theorem b_or (x y : Int32) (i : Nat) : b3 (x ||| y) i = (b3 x i || b3 y i) := by unfold b3; rw [Int32.toBitVec_or, BitVec.getLsbD_or]
theorem b_and (x y : Int32) (i : Nat) : b3 (x &&& y) i = (b3 x i && b3 y i) := by unfold b3; rw [Int32.toBitVec_and, BitVec.getLsbD_and]
theorem b_0 (i : Nat) : b3 0 i = false := BitVec.getLsbD_zero
theorem s_l : ∀ n, n < 32 → ((nI n &&& 31).toBitVec.smod 32).toNat = n := by decide +kernel
theorem b_sshr (n : Nat) (hn : n < 32) (x : Int32) {i : Nat} (hi : i < 32) : b3 (x >>> (nI n &&& 31)) i = if n + i < 32 then b3 x (n + i) else b3 x 31 := by
  unfold b3
  rw [Int32.toBitVec_shiftRight]
  show (x.toBitVec.sshiftRight ((nI n &&& 31).toBitVec.smod 32).toNat).getLsbD i = _
  rw [s_l n hn, BitVec.getLsbD_sshiftRight, BitVec.msb_eq_getLsbD_last]
  simp [hi]
theorem nf_sh : ∀ l, l < 32 → ((1 : Int32) <<< (nI l &&& 31)).toBitVec = BitVec.twoPow 32 l := by decide +kernel
theorem ts_bit {w : Int64} {s : UInt64} {j : Nat} (hj : j < 64) (hs : s.toNat = j) : ((w.toUInt64 >>> s).toInt64 &&& 1) = 0 ↔ w.toBitVec.getLsbD j = false := by
  have e : (w.toUInt64 >>> s).toInt64.toBitVec = w.toBitVec >>> j := by
    apply BitVec.eq_of_toNat_eq
    show (w.toUInt64 >>> s).toNat = _
    rw [UInt64.toNat_shiftRight, hs, Nat.mod_eq_of_lt hj, BitVec.toNat_ushiftRight]
    rfl
  rw [← Int64.toBitVec_inj, Int64.toBitVec_and, e]
  show w.toBitVec >>> j &&& 1#64 = 0#64 ↔ _
  constructor
  · intro h
    have t := congrArg (fun x => x.getLsbD 0) h
    simpa using t
  · intro h
    apply BitVec.eq_of_getLsbD_eq
    intro i hi
    cases i with
    | zero => simp [h]
    | succ i => simp
theorem wb_tb (n : Nat) : (lN n).toBitVec = BitVec.ofNat 64 n := rfl
theorem wb_inj {a b : Int64} (h : a.toBitVec = b.toBitVec) : a = b := Int64.toBitVec_inj.mp h
theorem wb_c : ∀ k, k < 64 → ((nI k).toInt64 &&& 63) = lN k := by decide +kernel
theorem wb_cu : ∀ k, k < 64 → ((nI k).toInt64.toUInt64 &&& Int64.toUInt64 63) = UInt64.ofNat k := by decide +kernel
theorem wb_sm : ∀ k, k < 64 → (BitVec.ofNat 64 k).smod 64 = BitVec.ofNat 64 k := by decide +kernel
theorem wb_shl (n : Nat) {k : Nat} (hk : k < 64) : lN n <<< ((nI k).toInt64 &&& 63) = lN (n * 2 ^ k) := by
  rw [wb_c k hk]
  apply wb_inj
  rw [Int64.toBitVec_shiftLeft, wb_tb, wb_tb, wb_tb, wb_sm k hk]
  apply BitVec.eq_of_toNat_eq
  rw [BitVec.shiftLeft_eq', BitVec.toNat_shiftLeft, BitVec.toNat_ofNat, BitVec.toNat_ofNat, BitVec.toNat_ofNat, Nat.mod_eq_of_lt (show k < 2 ^ 64 by omega), Nat.shiftLeft_eq, Nat.mul_mod, Nat.mod_mod, ← Nat.mul_mod]
theorem u_tn {n : Nat} (h : n < 2 ^ 64) : (UInt64.ofNat n).toNat = n := Nat.mod_eq_of_lt h
theorem g_or {k p a b : Nat} (hp : 2 ^ k = p) (ha : a < p) (h : b * p + a < 2 ^ 64) : lN (b * p) ||| lN a = lN (b * p + a) := by
  subst hp
  have h1 : b * 2 ^ k ||| a = b * 2 ^ k + a := by rw [← Nat.shiftLeft_eq, Nat.shiftLeft_add_eq_or_of_lt ha]
  have h3 : UInt64.ofNat (b * 2 ^ k) ||| UInt64.ofNat a = UInt64.ofNat (b * 2 ^ k + a) := UInt64.toNat_inj.mp (by rw [UInt64.toNat_or, u_tn (by omega), u_tn (by omega), u_tn h, h1])
  have h2 := congrArg UInt64.toInt64 h3
  exact h2
theorem fb_lN_inj {a b : Nat} (ha : a < 2 ^ 63) (hb : b < 2 ^ 63) : lN a = lN b ↔ a = b := by
  constructor
  · intro h
    have h1 : (BitVec.ofNat 64 a).toNat = (BitVec.ofNat 64 b).toNat := congrArg (fun x : Int64 => x.toBitVec.toNat) h
    rw [BitVec.toNat_ofNat, BitVec.toNat_ofNat, Nat.mod_eq_of_lt (by omega), Nat.mod_eq_of_lt (by omega)] at h1
    exact h1
  · rintro rfl; rfl
theorem fa_litL (n : Nat) : (OfNat.ofNat n : Int64) = lN n := rfl
