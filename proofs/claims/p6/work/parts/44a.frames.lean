/-! ===== what a function leaves as it was ===== -/
abbrev wS : Type := List Nat × List Nat × List Nat × List Nat × List Nat
def FRV (s : wS) (μ μ1 : vM) : Prop := (∀ f, f ∉ s.1 → μ1.1 f = μ.1 f) ∧ (∀ f, f ∉ s.2.1 → μ1.2.1 f = μ.2.1 f) ∧ (∀ t, t ∉ s.2.2.1 → μ1.2.2.1 t = μ.2.2.1 t) ∧ (∀ t, t ∉ s.2.2.2.1 → μ1.2.2.2.1 t = μ.2.2.2.1 t) ∧ ∀ t, t ∉ s.2.2.2.2 → μ1.2.2.2.2 t = μ.2.2.2.2 t
def FRG {β : Type} (π : β → vM) (s : wS) (μ : vM) (b : β) : Prop := FRV s μ (π b)
section FRVS
variable {α β γ : Type} {π : β → vM} {s s1 : wS} {μ μ1 μ2 : vM} {I I1 : Nat → Int32} {J J1 : Nat → Int64} {ri r1 : Nat → Nat → Int32} {rj l1 : Nat → Nat → Int64} {rq q1 : Nat → Nat → Option Nat}
theorem fv_rf : FRV s μ μ := ⟨fun _ _ => rfl, fun _ _ => rfl, fun _ _ => rfl, fun _ _ => rfl, fun _ _ => rfl⟩
theorem fv_rt {b : β} (h : π b = μ) : FRG π s μ b := by unfold FRG; rw [h]; exact fv_rf
theorem fv_tr (h : FRV s μ μ1) (k : FRV s μ1 μ2) : FRV s μ μ2 := ⟨fun f y => (k.1 f y).trans (h.1 f y), fun f y => (k.2.1 f y).trans (h.2.1 f y), fun f y => (k.2.2.1 f y).trans (h.2.2.1 f y), fun f y => (k.2.2.2.1 f y).trans (h.2.2.2.1 f y), fun f y => (k.2.2.2.2 f y).trans (h.2.2.2.2 f y)⟩
def sS (a b : wS) : Bool := a.1.all (fun x => decide (x ∈ b.1)) && a.2.1.all (fun x => decide (x ∈ b.2.1)) && a.2.2.1.all (fun x => decide (x ∈ b.2.2.1)) && a.2.2.2.1.all (fun x => decide (x ∈ b.2.2.2.1)) && a.2.2.2.2.all (fun x => decide (x ∈ b.2.2.2.2))
theorem sS_a {a b : List Nat} (h : a.all (fun x => decide (x ∈ b)) = true) {x : Nat} (hx : x ∉ b) : x ∉ a := fun y => hx (of_decide_eq_true (List.all_eq_true.mp h x y))
theorem fv_w (hs : sS s1 s = true) (h : FRV s1 μ μ1) : FRV s μ μ1 := by
  unfold sS at hs
  simp only [Bool.and_eq_true] at hs
  obtain ⟨⟨⟨⟨h1, h2⟩, h3⟩, h4⟩, h5⟩ := hs
  exact ⟨fun f y => h.1 f (sS_a h1 y), fun f y => h.2.1 f (sS_a h2 y), fun f y => h.2.2.1 f (sS_a h3 y), fun f y => h.2.2.2.1 f (sS_a h4 y), fun f y => h.2.2.2.2 f (sS_a h5 y)⟩
theorem fg_ap {v : γ} {k : γ → β} (h : ∀ z, FRG π s μ (k z)) : FRG π s μ (ap1 v k) := h v
theorem fg_if {c : Prop} [Decidable c] {a b : β} (h1 : FRG π s μ a) (h2 : FRG π s μ b) : FRG π s μ (if c then a else b) := by split <;> assumption
theorem fg_op {o : Option Nat} {a : β} {k : Nat → β} (h1 : FRG π s μ a) (h2 : ∀ w, FRG π s μ (k w)) : FRG π s μ (opt1 o a k) := by cases o; exact h1; exact h2 _
theorem up_n {δ : Type} {f : Nat → δ} {t : Nat} {v : δ} {l : List Nat} (ht : l.contains t = true) {x : Nat} (hx : x ∉ l) : va_up f t v x = f x := va_up_ne _ _ (fun e => hx (by rw [e]; exact List.contains_iff_mem.mp ht))
theorem fg_I {f : Nat} {v : Int32} {k : (Nat → Int32) → β} (hm : s.1.contains f = true) (h : ∀ x, FRG π s (x, J, ri, rj, rq) (k x)) : FRG π s (I, J, ri, rj, rq) (ap1 (va_up I f v) k) := fv_tr (μ1 := (va_up I f v, J, ri, rj, rq)) ⟨fun _ y => up_n hm y, fun _ _ => rfl, fun _ _ => rfl, fun _ _ => rfl, fun _ _ => rfl⟩ (h _)
theorem fg_J {f : Nat} {v : Int64} {k : (Nat → Int64) → β} (hm : s.2.1.contains f = true) (h : ∀ x, FRG π s (I, x, ri, rj, rq) (k x)) : FRG π s (I, J, ri, rj, rq) (ap1 (va_up J f v) k) := fv_tr (μ1 := (I, va_up J f v, ri, rj, rq)) ⟨fun _ _ => rfl, fun _ y => up_n hm y, fun _ _ => rfl, fun _ _ => rfl, fun _ _ => rfl⟩ (h _)
theorem fg_ri {f : Nat} {v : Nat → Int32} {k : (Nat → Nat → Int32) → β} (hm : s.2.2.1.contains f = true) (h : ∀ x, FRG π s (I, J, x, rj, rq) (k x)) : FRG π s (I, J, ri, rj, rq) (ap1 (va_up ri f v) k) := fv_tr (μ1 := (I, J, va_up ri f v, rj, rq)) ⟨fun _ _ => rfl, fun _ _ => rfl, fun _ y => up_n hm y, fun _ _ => rfl, fun _ _ => rfl⟩ (h _)
theorem fg_rj {f : Nat} {v : Nat → Int64} {k : (Nat → Nat → Int64) → β} (hm : s.2.2.2.1.contains f = true) (h : ∀ x, FRG π s (I, J, ri, x, rq) (k x)) : FRG π s (I, J, ri, rj, rq) (ap1 (va_up rj f v) k) := fv_tr (μ1 := (I, J, ri, va_up rj f v, rq)) ⟨fun _ _ => rfl, fun _ _ => rfl, fun _ _ => rfl, fun _ y => up_n hm y, fun _ _ => rfl⟩ (h _)
theorem fg_rq {f : Nat} {v : Nat → Option Nat} {k : (Nat → Nat → Option Nat) → β} (hm : s.2.2.2.2.contains f = true) (h : ∀ x, FRG π s (I, J, ri, rj, x) (k x)) : FRG π s (I, J, ri, rj, rq) (ap1 (va_up rq f v) k) := fv_tr (μ1 := (I, J, ri, rj, va_up rq f v)) ⟨fun _ _ => rfl, fun _ _ => rfl, fun _ _ => rfl, fun _ _ => rfl, fun _ y => up_n hm y⟩ (h _)
theorem fg_bI {p : α × vM} {k : α → (Nat → Int32) → (Nat → Int64) → (Nat → Nat → Int32) → (Nat → Nat → Int64) → (Nat → Nat → Option Nat) → β} (hp : FRG Prod.snd s1 μ p) (hs : sS s1 s = true) (h : ∀ r I J ri rj rq, FRV s1 μ (I, J, ri, rj, rq) → FRG π s (I, J, ri, rj, rq) (k r I J ri rj rq)) : FRG π s μ (bnI p k) := fv_tr (fv_w hs hp) (h p.1 p.2.1 p.2.2.1 p.2.2.2.1 p.2.2.2.2.1 p.2.2.2.2.2 hp)
theorem fg_bV {p : vM} {k : (Nat → Int32) → (Nat → Int64) → (Nat → Nat → Int32) → (Nat → Nat → Int64) → (Nat → Nat → Option Nat) → β} (hp : FRG id s1 μ p) (hs : sS s1 s = true) (h : ∀ I J ri rj rq, FRV s1 μ (I, J, ri, rj, rq) → FRG π s (I, J, ri, rj, rq) (k I J ri rj rq)) : FRG π s μ (bnV p k) := fv_tr (fv_w hs hp) (h p.1 p.2.1 p.2.2.1 p.2.2.2.1 p.2.2.2.2 hp)
theorem fe_I {b c d e : List Nat} (h : FRV ([], b, c, d, e) (I, J, ri, rj, rq) (I1, J1, r1, l1, q1)) : I1 = I := funext fun f => h.1 f (fun x => by have y : f ∈ ([] : List Nat) := x; cases y)
theorem fe_J {b c d e : List Nat} (h : FRV (b, [], c, d, e) (I, J, ri, rj, rq) (I1, J1, r1, l1, q1)) : J1 = J := funext fun f => h.2.1 f (fun x => by have y : f ∈ ([] : List Nat) := x; cases y)
theorem fe_ri {b c d e : List Nat} (h : FRV (b, c, [], d, e) (I, J, ri, rj, rq) (I1, J1, r1, l1, q1)) : r1 = ri := funext fun f => h.2.2.1 f (fun x => by have y : f ∈ ([] : List Nat) := x; cases y)
theorem fe_rj {b c d e : List Nat} (h : FRV (b, c, d, [], e) (I, J, ri, rj, rq) (I1, J1, r1, l1, q1)) : l1 = rj := funext fun f => h.2.2.2.1 f (fun x => by have y : f ∈ ([] : List Nat) := x; cases y)
theorem fe_rq {b c d e : List Nat} (h : FRV (b, c, d, e, []) (I, J, ri, rj, rq) (I1, J1, r1, l1, q1)) : q1 = rq := funext fun f => h.2.2.2.2 f (fun x => by have y : f ∈ ([] : List Nat) := x; cases y)
end FRVS










def w_X0_copyFrom : wS := ([0, 10], [], [1, 2, 3, 4, 5, 6, 7, 8, 9, 11], [], [])
theorem g_X0_copyFrom_f {nI : Nat → Int32} {nR : Nat → Nat → Int32} {I : Nat → Int32} {J : Nat → Int64} {ri : Nat → Nat → Int32} {rj : Nat → Nat → Int64} {rq : Nat → Nat → Option Nat}  : FRG id w_X0_copyFrom (I, J, ri, rj, rq) (g_X0_copyFrom  nI nR I J ri rj rq) := by
  rw [g_X0_copyFrom_e]
  refine fg_ap (fun y_2 => ?_)
  refine fg_I rfl (fun I_3 => ?_)
  refine fg_ri rfl (fun ri_8 => ?_)
  refine fg_ri rfl (fun ri_21 => ?_)
  refine fg_ri rfl (fun ri_34 => ?_)
  refine fg_ri rfl (fun ri_47 => ?_)
  refine fg_ri rfl (fun ri_60 => ?_)
  refine fg_ri rfl (fun ri_73 => ?_)
  refine fg_ri rfl (fun ri_86 => ?_)
  refine fg_ri rfl (fun ri_99 => ?_)
  refine fg_ri rfl (fun ri_112 => ?_)
  refine fg_ap (fun y_122 => ?_)
  refine fg_I rfl (fun I_123 => ?_)
  refine fg_ri rfl (fun ri_128 => ?_)
  exact fv_rt rfl

def w_X0_isOnRing : wS := ([], [], [], [], [])
theorem g_X0_isOnRing_f {a0 : Int32} {I : Nat → Int32} {J : Nat → Int64} {ri : Nat → Nat → Int32} {rj : Nat → Nat → Int64} {rq : Nat → Nat → Option Nat}  : FRG Prod.snd w_X0_isOnRing (I, J, ri, rj, rq) (g_X0_isOnRing  a0 I J ri rj rq) := by
  rw [g_X0_isOnRing_e]
  refine fg_ap (fun x_1 => ?_)
  refine fg_if ?_ ?_
  · exact fv_rt rfl
  · exact fv_rt rfl

def w_X0_onRings : wS := ([], [], [], [], [])
theorem g_X0_onRings_K26_f {x_323 : Int32} {k_g_X0_onRings_L4 : (Int64) → (Int32) → Int64 × vM} {I : Nat → Int32} {J : Nat → Int64} {ri : Nat → Nat → Int32} {rj : Nat → Nat → Int64} {rq : Nat → Nat → Option Nat} {x_378 : Int64} (hk_g_X0_onRings_L4 : ∀ (x_322 : Int64) (x_323 : Int32), FRG Prod.snd w_X0_onRings (I, J, ri, rj, rq) (k_g_X0_onRings_L4 x_322 x_323)) : FRG Prod.snd w_X0_onRings (I, J, ri, rj, rq) (g_X0_onRings_K26 x_323 k_g_X0_onRings_L4 x_378) := by
  rw [g_X0_onRings_K26_e]
  refine fg_ap (fun x_382 => ?_)
  exact hk_g_X0_onRings_L4 _ _
theorem g_X0_onRings_L4_f {I : Nat → Int32} {J : Nat → Int64} {ri : Nat → Nat → Int32} {rj : Nat → Nat → Int64} {rq : Nat → Nat → Option Nat}  : ∀ (n_350 : Nat) (x_322 : Int64) (x_323 : Int32), FRG Prod.snd w_X0_onRings (I, J, ri, rj, rq) (g_X0_onRings_L4 I J ri rj rq n_350 x_322 x_323) := by
  intro n_350
  induction n_350 with
  | zero => intros; exact fv_rt rfl
  | succ n_350 ih =>
    intro x_322 x_323
    rw [g_X0_onRings_L4_e]
    refine fg_ap (fun y_356 => ?_)
    refine fg_if ?_ ?_
    · exact fv_rt rfl
    · refine fg_bI g_X0_isOnRing_f rfl (fun x_363 I_z1 J_z1 ri_z1 rj_z1 rq_z1 h_1 => ?_)
      rw [fe_I h_1, fe_J h_1, fe_ri h_1, fe_rj h_1, fe_rq h_1]
      refine fg_if ?_ ?_
      · exact g_X0_onRings_K26_f ih
      · refine fg_ap (fun x_393 => ?_)
        refine fg_ap (fun x_394 => ?_)
        exact g_X0_onRings_K26_f ih
theorem g_X0_onRings_f {I : Nat → Int32} {J : Nat → Int64} {ri : Nat → Nat → Int32} {rj : Nat → Nat → Int64} {rq : Nat → Nat → Option Nat}  : FRG Prod.snd w_X0_onRings (I, J, ri, rj, rq) (g_X0_onRings  I J ri rj rq) := by
  rw [g_X0_onRings_e]
  exact g_X0_onRings_L4_f  _ _ _

def w_X0_countAt : wS := ([], [], [], [], [])
theorem g_X0_countAt_K25_f {x_470 : Int32} {k_g_X0_countAt_L4 : (Int32) → (Int32) → Int32 × vM} {I : Nat → Int32} {J : Nat → Int64} {ri : Nat → Nat → Int32} {rj : Nat → Nat → Int64} {rq : Nat → Nat → Option Nat} {x_505 : Int32} (hk_g_X0_countAt_L4 : ∀ (x_469 : Int32) (x_470 : Int32), FRG Prod.snd w_X0_countAt (I, J, ri, rj, rq) (k_g_X0_countAt_L4 x_469 x_470)) : FRG Prod.snd w_X0_countAt (I, J, ri, rj, rq) (g_X0_countAt_K25 x_470 k_g_X0_countAt_L4 x_505) := by
  rw [g_X0_countAt_K25_e]
  refine fg_ap (fun x_509 => ?_)
  exact hk_g_X0_countAt_L4 _ _
theorem g_X0_countAt_L4_f {a0 : Int32} {I : Nat → Int32} {J : Nat → Int64} {ri : Nat → Nat → Int32} {rj : Nat → Nat → Int64} {rq : Nat → Nat → Option Nat}  : ∀ (n_487 : Nat) (x_469 : Int32) (x_470 : Int32), FRG Prod.snd w_X0_countAt (I, J, ri, rj, rq) (g_X0_countAt_L4 a0 I J ri rj rq n_487 x_469 x_470) := by
  intro n_487
  induction n_487 with
  | zero => intros; exact fv_rt rfl
  | succ n_487 ih =>
    intro x_469 x_470
    rw [g_X0_countAt_L4_e]
    refine fg_ap (fun y_493 => ?_)
    refine fg_if ?_ ?_
    · exact fv_rt rfl
    · refine fg_ap (fun x_500 => ?_)
      refine fg_if ?_ ?_
      · refine fg_ap (fun x_514 => ?_)
        exact g_X0_countAt_K25_f ih
      · exact g_X0_countAt_K25_f ih
theorem g_X0_countAt_f {a0 : Int32} {I : Nat → Int32} {J : Nat → Int64} {ri : Nat → Nat → Int32} {rj : Nat → Nat → Int64} {rq : Nat → Nat → Option Nat}  : FRG Prod.snd w_X0_countAt (I, J, ri, rj, rq) (g_X0_countAt  a0 I J ri rj rq) := by
  rw [g_X0_countAt_e]
  exact g_X0_countAt_L4_f  _ _ _

def w_X0_freeBeds : wS := ([], [], [], [], [])
theorem g_X0_freeBeds_f {a0 : Int32} {I : Nat → Int32} {J : Nat → Int64} {ri : Nat → Nat → Int32} {rj : Nat → Nat → Int64} {rq : Nat → Nat → Option Nat}  : FRG Prod.snd w_X0_freeBeds (I, J, ri, rj, rq) (g_X0_freeBeds  a0 I J ri rj rq) := by
  rw [g_X0_freeBeds_e]
  refine fg_ap (fun x_2 => ?_)
  refine fg_ap (fun x_3 => ?_)
  refine fg_bI g_X0_countAt_f rfl (fun x_5 I_z1 J_z1 ri_z1 rj_z1 rq_z1 h_1 => ?_)
  rw [fe_I h_1, fe_J h_1, fe_ri h_1, fe_rj h_1, fe_rq h_1]
  refine fg_ap (fun x_12 => ?_)
  exact fv_rt rfl

def w_X0_sendings : wS := ([], [], [], [], [])
theorem g_X0_sendings_K33_f {x_230 : Int32} {k_g_X0_sendings_L4 : (Int32) → (Int32) → Int32 × vM} {I : Nat → Int32} {J : Nat → Int64} {ri : Nat → Nat → Int32} {rj : Nat → Nat → Int64} {rq : Nat → Nat → Option Nat} {x_269 : Int32} (hk_g_X0_sendings_L4 : ∀ (x_229 : Int32) (x_230 : Int32), FRG Prod.snd w_X0_sendings (I, J, ri, rj, rq) (k_g_X0_sendings_L4 x_229 x_230)) : FRG Prod.snd w_X0_sendings (I, J, ri, rj, rq) (g_X0_sendings_K33 x_230 k_g_X0_sendings_L4 x_269) := by
  rw [g_X0_sendings_K33_e]
  refine fg_ap (fun x_273 => ?_)
  exact hk_g_X0_sendings_L4 _ _
theorem g_X0_sendings_L4_f {I : Nat → Int32} {J : Nat → Int64} {ri : Nat → Nat → Int32} {rj : Nat → Nat → Int64} {rq : Nat → Nat → Option Nat}  : ∀ (n_249 : Nat) (x_229 : Int32) (x_230 : Int32), FRG Prod.snd w_X0_sendings (I, J, ri, rj, rq) (g_X0_sendings_L4 I J ri rj rq n_249 x_229 x_230) := by
  intro n_249
  induction n_249 with
  | zero => intros; exact fv_rt rfl
  | succ n_249 ih =>
    intro x_229 x_230
    rw [g_X0_sendings_L4_e]
    refine fg_ap (fun y_255 => ?_)
    refine fg_if ?_ ?_
    · exact fv_rt rfl
    · refine fg_ap (fun x_262 => ?_)
      refine fg_if ?_ ?_
      · refine fg_ap (fun x_279 => ?_)
        refine fg_ap (fun x_280 => ?_)
        exact g_X0_sendings_K33_f ih
      · exact g_X0_sendings_K33_f ih
theorem g_X0_sendings_f {I : Nat → Int32} {J : Nat → Int64} {ri : Nat → Nat → Int32} {rj : Nat → Nat → Int64} {rq : Nat → Nat → Option Nat}  : FRG Prod.snd w_X0_sendings (I, J, ri, rj, rq) (g_X0_sendings  I J ri rj rq) := by
  rw [g_X0_sendings_e]
  exact g_X0_sendings_L4_f  _ _ _


def w_X0_valueOf : wS := ([], [], [], [], [])
theorem g_X0_valueOf_f {a0 : Int32} {a1 : Int32} {a2 : Int32} {I : Nat → Int32} {J : Nat → Int64} {ri : Nat → Nat → Int32} {rj : Nat → Nat → Int64} {rq : Nat → Nat → Option Nat}  : FRG Prod.snd w_X0_valueOf (I, J, ri, rj, rq) (g_X0_valueOf  a0 a1 a2 I J ri rj rq) := by
  rw [g_X0_valueOf_e]
  refine fg_if ?_ ?_
  · refine fg_ap (fun x_5 => ?_)
    exact fv_rt rfl
  · refine fg_if ?_ ?_
    · refine fg_ap (fun x_10 => ?_)
      exact fv_rt rfl
    · refine fg_if ?_ ?_
      · refine fg_ap (fun x_16 => ?_)
        exact fv_rt rfl
      · refine fg_if ?_ ?_
        · refine fg_ap (fun x_21 => ?_)
          exact fv_rt rfl
        · refine fg_if ?_ ?_
          · exact fv_rt rfl
          · exact fv_rt rfl


def w_X9_isAt : wS := ([], [], [], [], [])
theorem g_X9_isAt_f {a0 : Int32} {I : Nat → Int32} {J : Nat → Int64} {ri : Nat → Nat → Int32} {rj : Nat → Nat → Int64} {rq : Nat → Nat → Option Nat}  : FRG Prod.snd w_X9_isAt (I, J, ri, rj, rq) (g_X9_isAt  a0 I J ri rj rq) := by
  rw [g_X9_isAt_e]
  refine fg_ap (fun x_2 => ?_)
  refine fg_if ?_ ?_
  · exact fv_rt rfl
  · exact fv_rt rfl

def w_X9_isSweet : wS := ([], [], [], [], [])
theorem g_X9_isSweet_K34_f {I : Nat → Int32} {J : Nat → Int64} {ri : Nat → Nat → Int32} {rj : Nat → Nat → Int64} {rq : Nat → Nat → Option Nat}  : FRG Prod.snd w_X9_isSweet (I, J, ri, rj, rq) (g_X9_isSweet_K34 I J ri rj rq ) := by
  rw [g_X9_isSweet_K34_e]
  exact fv_rt rfl
theorem g_X9_isSweet_f {a0 : Int32} {I : Nat → Int32} {J : Nat → Int64} {ri : Nat → Nat → Int32} {rj : Nat → Nat → Int64} {rq : Nat → Nat → Option Nat}  : FRG Prod.snd w_X9_isSweet (I, J, ri, rj, rq) (g_X9_isSweet  a0 I J ri rj rq) := by
  rw [g_X9_isSweet_e]
  refine fg_bI g_X9_isAt_f rfl (fun x_1 I_z1 J_z1 ri_z1 rj_z1 rq_z1 h_1 => ?_)
  rw [fe_I h_1, fe_J h_1, fe_ri h_1, fe_rj h_1, fe_rq h_1]
  refine fg_if ?_ ?_
  · exact g_X9_isSweet_K34_f 
  · refine fg_ap (fun x_29 => ?_)
    refine fg_if ?_ ?_
    · exact g_X9_isSweet_K34_f 
    · refine fg_ap (fun x_36 => ?_)
      refine fg_if ?_ ?_
      · exact g_X9_isSweet_K34_f 
      · exact fv_rt rfl

def w_X2_sweetFrom : wS := ([], [], [], [], [])
theorem g_X2_sweetFrom_K41_f {I : Nat → Int32} {J : Nat → Int64} {ri : Nat → Nat → Int32} {rj : Nat → Nat → Int64} {rq : Nat → Nat → Option Nat} {x_345 : Int32}  : FRG Prod.snd w_X2_sweetFrom (I, J, ri, rj, rq) (g_X2_sweetFrom_K41 I J ri rj rq x_345 ) := by
  rw [g_X2_sweetFrom_K41_e]
  exact fv_rt rfl
theorem g_X2_sweetFrom_L4_f {I : Nat → Int32} {J : Nat → Int64} {ri : Nat → Nat → Int32} {rj : Nat → Nat → Int64} {rq : Nat → Nat → Option Nat}  : ∀ (n_375 : Nat) (x_345 : Int32) (x_346 : Int32), FRG Prod.snd w_X2_sweetFrom (I, J, ri, rj, rq) (g_X2_sweetFrom_L4 I J ri rj rq n_375 x_345 x_346) := by
  intro n_375
  induction n_375 with
  | zero => intros; exact fv_rt rfl
  | succ n_375 ih =>
    intro x_345 x_346
    rw [g_X2_sweetFrom_L4_e]
    refine fg_ap (fun y_383 => ?_)
    refine fg_if ?_ ?_
    · exact g_X2_sweetFrom_K41_f 
    · refine fg_if ?_ ?_
      · exact g_X2_sweetFrom_K41_f 
      · refine fg_bI g_X9_isSweet_f rfl (fun x_419 I_z1 J_z1 ri_z1 rj_z1 rq_z1 h_1 => ?_)
        rw [fe_I h_1, fe_J h_1, fe_ri h_1, fe_rj h_1, fe_rq h_1]
        refine fg_if ?_ ?_
        · refine fg_ap (fun x_433 => ?_)
          refine fg_ap (fun x_435 => ?_)
          exact ih _ _
        · exact g_X2_sweetFrom_K41_f 
theorem g_X2_sweetFrom_f {a0 : Int32} {I : Nat → Int32} {J : Nat → Int64} {ri : Nat → Nat → Int32} {rj : Nat → Nat → Int64} {rq : Nat → Nat → Option Nat}  : FRG Prod.snd w_X2_sweetFrom (I, J, ri, rj, rq) (g_X2_sweetFrom  a0 I J ri rj rq) := by
  rw [g_X2_sweetFrom_e]
  exact g_X2_sweetFrom_L4_f  _ _ _

def w_X0_drink : wS := ([], [], [6, 12, 289], [], [])
theorem g_X0_drink_K98_f {x_1443 : Int32} {k_g_X0_drink_L15 : (Int32) → (Int32) → (Nat → Nat → Int32) → Int32 × vM} {I : Nat → Int32} {J : Nat → Int64} {rj : Nat → Nat → Int64} {rq : Nat → Nat → Option Nat} {x_1556 : Int32} {ri_1557 : Nat → Nat → Int32} (hk_g_X0_drink_L15 : ∀ (x_1442 : Int32) (x_1443 : Int32) (ri_1444 : Nat → Nat → Int32), FRG Prod.snd w_X0_drink (I, J, ri_1444, rj, rq) (k_g_X0_drink_L15 x_1442 x_1443 ri_1444)) : FRG Prod.snd w_X0_drink (I, J, ri_1557, rj, rq) (g_X0_drink_K98 x_1443 k_g_X0_drink_L15 x_1556 ri_1557) := by
  rw [g_X0_drink_K98_e]
  refine fg_ap (fun x_1564 => ?_)
  exact hk_g_X0_drink_L15 _ _ _
theorem g_X0_drink_L15_f {I : Nat → Int32} {J : Nat → Int64} {rj : Nat → Nat → Int64} {rq : Nat → Nat → Option Nat}  : ∀ (n_1500 : Nat) (x_1442 : Int32) (x_1443 : Int32) (ri_1444 : Nat → Nat → Int32), FRG Prod.snd w_X0_drink (I, J, ri_1444, rj, rq) (g_X0_drink_L15 I J rj rq n_1500 x_1442 x_1443 ri_1444) := by
  intro n_1500
  induction n_1500 with
  | zero => intros; exact fv_rt rfl
  | succ n_1500 ih =>
    intro x_1442 x_1443 ri_1444
    rw [g_X0_drink_L15_e]
    refine fg_ap (fun y_1508 => ?_)
    refine fg_if ?_ ?_
    · exact fv_rt rfl
    · refine fg_bI g_X0_isOnRing_f rfl (fun x_1515 I_z1 J_z1 ri_z1 rj_z1 rq_z1 h_1 => ?_)
      rw [fe_I h_1, fe_J h_1, fe_ri h_1, fe_rj h_1, fe_rq h_1]
      refine fg_if ?_ ?_
      · exact g_X0_drink_K98_f ih
      · refine fg_ap (fun x_1575 => ?_)
        refine fg_ap (fun x_1577 => ?_)
        refine fg_bI g_X2_sweetFrom_f rfl (fun x_1579 I_z2 J_z2 ri_z2 rj_z2 rq_z2 h_2 => ?_)
        rw [fe_I h_2, fe_J h_2, fe_ri h_2, fe_rj h_2, fe_rq h_2]
        refine fg_ri rfl (fun r_1586 => ?_)
        refine fg_if ?_ ?_
        · refine fg_ap (fun x_1600 => ?_)
          refine fg_ap (fun x_1601 => ?_)
          refine fg_ri rfl (fun r_1602 => ?_)
          refine fg_ap (fun x_1604 => ?_)
          exact g_X0_drink_K98_f ih
        · refine fg_ap (fun x_1594 => ?_)
          refine fg_ap (fun x_1595 => ?_)
          refine fg_ri rfl (fun r_1596 => ?_)
          exact g_X0_drink_K98_f ih
theorem g_X0_drink_f {I : Nat → Int32} {J : Nat → Int64} {ri : Nat → Nat → Int32} {rj : Nat → Nat → Int64} {rq : Nat → Nat → Option Nat}  : FRG Prod.snd w_X0_drink (I, J, ri, rj, rq) (g_X0_drink  I J ri rj rq) := by
  rw [g_X0_drink_e]
  refine fg_ri rfl (fun ri_5 => ?_)
  exact g_X0_drink_L15_f  _ _ _ _

def w_X0_groupOf : wS := ([], [], [], [], [])
theorem g_X0_groupOf_f {a0 : Int32} {I : Nat → Int32} {J : Nat → Int64} {ri : Nat → Nat → Int32} {rj : Nat → Nat → Int64} {rq : Nat → Nat → Option Nat}  : FRG Prod.snd w_X0_groupOf (I, J, ri, rj, rq) (g_X0_groupOf  a0 I J ri rj rq) := by
  rw [g_X0_groupOf_e]
  refine fg_ap (fun x_1 => ?_)
  refine fg_ap (fun x_3 => ?_)
  refine fg_ap (fun x_6 => ?_)
  refine fg_ap (fun x_8 => ?_)
  exact fv_rt rfl



def w_X0_countGroups : wS := ([], [], [14, 15], [], [])
theorem g_X0_countGroups_K57_f {x_570 : Int32} {k_g_X0_countGroups_L19 : (Int32) → (Nat → Nat → Int32) → vM} {I : Nat → Int32} {J : Nat → Int64} {rj : Nat → Nat → Int64} {rq : Nat → Nat → Option Nat} {ri_664 : Nat → Nat → Int32} (hk_g_X0_countGroups_L19 : ∀ (x_570 : Int32) (ri_571 : Nat → Nat → Int32), FRG id w_X0_countGroups (I, J, ri_571, rj, rq) (k_g_X0_countGroups_L19 x_570 ri_571)) : FRG id w_X0_countGroups (I, J, ri_664, rj, rq) (g_X0_countGroups_K57 x_570 k_g_X0_countGroups_L19 ri_664) := by
  rw [g_X0_countGroups_K57_e]
  refine fg_ap (fun x_668 => ?_)
  exact hk_g_X0_countGroups_L19 _ _
theorem g_X0_countGroups_L19_f {a0 : Int64} {I : Nat → Int32} {J : Nat → Int64} {rj : Nat → Nat → Int64} {rq : Nat → Nat → Option Nat}  : ∀ (n_617 : Nat) (x_570 : Int32) (ri_571 : Nat → Nat → Int32), FRG id w_X0_countGroups (I, J, ri_571, rj, rq) (g_X0_countGroups_L19 a0 I J rj rq n_617 x_570 ri_571) := by
  intro n_617
  induction n_617 with
  | zero => intros; exact fv_rt rfl
  | succ n_617 ih =>
    intro x_570 ri_571
    rw [g_X0_countGroups_L19_e]
    refine fg_ap (fun y_623 => ?_)
    refine fg_if ?_ ?_
    · exact fv_rt rfl
    · refine fg_ap (fun x_629 => ?_)
      refine fg_if ?_ ?_
      · exact g_X0_countGroups_K57_f ih
      · refine fg_bI g_X0_isOnRing_f rfl (fun x_676 I_z1 J_z1 ri_z1 rj_z1 rq_z1 h_1 => ?_)
        rw [fe_I h_1, fe_J h_1, fe_ri h_1, fe_rj h_1, fe_rq h_1]
        refine fg_if ?_ ?_
        · exact g_X0_countGroups_K57_f ih
        · refine fg_bI g_X0_groupOf_f rfl (fun x_693 I_z2 J_z2 ri_z2 rj_z2 rq_z2 h_2 => ?_)
          rw [fe_I h_2, fe_J h_2, fe_ri h_2, fe_rj h_2, fe_rq h_2]
          refine fg_ap (fun x_700 => ?_)
          refine fg_ap (fun x_701 => ?_)
          refine fg_ri rfl (fun r_702 => ?_)
          exact g_X0_countGroups_K57_f ih
theorem g_X0_countGroups_f {a0 : Int64} {I : Nat → Int32} {J : Nat → Int64} {ri : Nat → Nat → Int32} {rj : Nat → Nat → Int64} {rq : Nat → Nat → Option Nat}  : FRG id w_X0_countGroups (I, J, ri, rj, rq) (g_X0_countGroups  a0 I J ri rj rq) := by
  rw [g_X0_countGroups_e]
  refine fg_ri rfl (fun ri_4 => ?_)
  refine fg_ri rfl (fun ri_14 => ?_)
  exact g_X0_countGroups_L19_f  _ _ _

def w_X0_takeLot : wS := ([], [], [13], [], [])
theorem g_X0_takeLot_L2_f {a0 : Int32} {I : Nat → Int32} {J : Nat → Int64} {ri : Nat → Nat → Int32} {rj : Nat → Nat → Int64} {rq : Nat → Nat → Option Nat}  : ∀ (n_112 : Nat) (x_95 : Int32), FRG Prod.snd w_X0_takeLot (I, J, ri, rj, rq) (g_X0_takeLot_L2 a0 I J ri rj rq n_112 x_95) := by
  intro n_112
  induction n_112 with
  | zero => intros; exact fv_rt rfl
  | succ n_112 ih =>
    intro x_95
    rw [g_X0_takeLot_L2_e]
    refine fg_ap (fun y_118 => ?_)
    refine fg_if ?_ ?_
    · exact fv_rt rfl
    · refine fg_ap (fun x_125 => ?_)
      refine fg_if ?_ ?_
      · refine fg_ap (fun x_131 => ?_)
        exact ih _
      · refine fg_ap (fun x_133 => ?_)
        refine fg_ri rfl (fun r_134 => ?_)
        exact fv_rt rfl
theorem g_X0_takeLot_f {a0 : Int32} {I : Nat → Int32} {J : Nat → Int64} {ri : Nat → Nat → Int32} {rj : Nat → Nat → Int64} {rq : Nat → Nat → Option Nat}  : FRG Prod.snd w_X0_takeLot (I, J, ri, rj, rq) (g_X0_takeLot  a0 I J ri rj rq) := by
  rw [g_X0_takeLot_e]
  exact g_X0_takeLot_L2_f  _ _


def w_X1_copyFrom : wS := ([32], [], [33], [34], [])
theorem g_X1_copyFrom_f {nI : Nat → Int32} {nR : Nat → Nat → Int32} {nL : Nat → Nat → Int64} {I : Nat → Int32} {J : Nat → Int64} {ri : Nat → Nat → Int32} {rj : Nat → Nat → Int64} {rq : Nat → Nat → Option Nat}  : FRG id w_X1_copyFrom (I, J, ri, rj, rq) (g_X1_copyFrom  nI nR nL I J ri rj rq) := by
  rw [g_X1_copyFrom_e]
  refine fg_ap (fun y_2 => ?_)
  refine fg_I rfl (fun I_3 => ?_)
  refine fg_ri rfl (fun ri_8 => ?_)
  refine fg_rj rfl (fun r_19 => ?_)
  exact fv_rt rfl

def w_X2_topOf : wS := ([], [], [], [], [])
theorem g_X2_topOf_f {a0 : Int32} {I : Nat → Int32} {J : Nat → Int64} {ri : Nat → Nat → Int32} {rj : Nat → Nat → Int64} {rq : Nat → Nat → Option Nat}  : FRG Prod.snd w_X2_topOf (I, J, ri, rj, rq) (g_X2_topOf  a0 I J ri rj rq) := by
  rw [g_X2_topOf_e]
  refine fg_ap (fun x_2 => ?_)
  refine fg_ap (fun x_4 => ?_)
  refine fg_ap (fun x_5 => ?_)
  refine fg_ap (fun x_7 => ?_)
  refine fg_ap (fun x_8 => ?_)
  refine fg_ap (fun x_9 => ?_)
  refine fg_ap (fun x_11 => ?_)
  refine fg_ap (fun x_12 => ?_)
  exact fv_rt rfl

def w_X2_isDry : wS := ([], [], [], [], [])
theorem g_X2_isDry_f {a0 : Int32} {I : Nat → Int32} {J : Nat → Int64} {ri : Nat → Nat → Int32} {rj : Nat → Nat → Int64} {rq : Nat → Nat → Option Nat}  : FRG Prod.snd w_X2_isDry (I, J, ri, rj, rq) (g_X2_isDry  a0 I J ri rj rq) := by
  rw [g_X2_isDry_e]
  refine fg_ap (fun y_1 => ?_)
  refine fg_ap (fun x_2 => ?_)
  exact fv_rt rfl

def w_X2_growReef : wS := ([], [], [74], [], [])
theorem g_X2_growReef_L2_f {a0 : Int32} {I : Nat → Int32} {J : Nat → Int64} {rj : Nat → Nat → Int64} {rq : Nat → Nat → Option Nat}  : ∀ (n_233 : Nat) (x_214 : Int32) (ri_215 : Nat → Nat → Int32), FRG id w_X2_growReef (I, J, ri_215, rj, rq) (g_X2_growReef_L2 a0 I J rj rq n_233 x_214 ri_215) := by
  intro n_233
  induction n_233 with
  | zero => intros; exact fv_rt rfl
  | succ n_233 ih =>
    intro x_214 ri_215
    rw [g_X2_growReef_L2_e]
    refine fg_ap (fun y_239 => ?_)
    refine fg_if ?_ ?_
    · exact fv_rt rfl
    · refine fg_ap (fun x_246 => ?_)
      refine fg_ap (fun x_247 => ?_)
      refine fg_ap (fun x_248 => ?_)
      refine fg_ap (fun x_250 => ?_)
      refine fg_ri rfl (fun r_252 => ?_)
      refine fg_ap (fun x_253 => ?_)
      exact ih _ _
theorem g_X2_growReef_f {a0 : Int32} {I : Nat → Int32} {J : Nat → Int64} {ri : Nat → Nat → Int32} {rj : Nat → Nat → Int64} {rq : Nat → Nat → Option Nat}  : FRG id w_X2_growReef (I, J, ri, rj, rq) (g_X2_growReef  a0 I J ri rj rq) := by
  rw [g_X2_growReef_e]
  exact g_X2_growReef_L2_f  _ _ _

def w_X2_walk : wS := ([66], [], [73, 81], [], [])
theorem g_X2_walk_K118_f {x_4568 : Int32} {k_g_X2_walk_L47 : (Int32) → (Nat → Int32) → (Nat → Nat → Int32) → vM} {J : Nat → Int64} {rj : Nat → Nat → Int64} {rq : Nat → Nat → Option Nat} {I_4634 : Nat → Int32} {ri_4635 : Nat → Nat → Int32} (hk_g_X2_walk_L47 : ∀ (x_4568 : Int32) (I_4569 : Nat → Int32) (ri_4570 : Nat → Nat → Int32), FRG id w_X2_walk (I_4569, J, ri_4570, rj, rq) (k_g_X2_walk_L47 x_4568 I_4569 ri_4570)) : FRG id w_X2_walk (I_4634, J, ri_4635, rj, rq) (g_X2_walk_K118 x_4568 k_g_X2_walk_L47 I_4634 ri_4635) := by
  rw [g_X2_walk_K118_e]
  refine fg_ap (fun x_4639 => ?_)
  exact hk_g_X2_walk_L47 _ _ _
theorem g_X2_walk_L47_f {J : Nat → Int64} {rj : Nat → Nat → Int64} {rq : Nat → Nat → Option Nat}  : ∀ (n_4602 : Nat) (x_4568 : Int32) (I_4569 : Nat → Int32) (ri_4570 : Nat → Nat → Int32), FRG id w_X2_walk (I_4569, J, ri_4570, rj, rq) (g_X2_walk_L47 J rj rq n_4602 x_4568 I_4569 ri_4570) := by
  intro n_4602
  induction n_4602 with
  | zero => intros; exact fv_rt rfl
  | succ n_4602 ih =>
    intro x_4568 I_4569 ri_4570
    rw [g_X2_walk_L47_e]
    refine fg_ap (fun y_4608 => ?_)
    refine fg_if ?_ ?_
    · exact fv_rt rfl
    · refine fg_ap (fun x_4615 => ?_)
      refine fg_ap (fun x_4617 => ?_)
      refine fg_ap (fun x_4618 => ?_)
      refine fg_ri rfl (fun r_4619 => ?_)
      refine fg_ap (fun x_4621 => ?_)
      refine fg_if ?_ ?_
      · refine fg_ap (fun y_4650 => ?_)
        refine fg_ap (fun x_4651 => ?_)
        refine fg_ap (fun x_4652 => ?_)
        refine fg_I rfl (fun I_4653 => ?_)
        exact g_X2_walk_K118_f ih
      · refine fg_ap (fun x_4645 => ?_)
        refine fg_ap (fun x_4646 => ?_)
        refine fg_ap (fun x_4647 => ?_)
        refine fg_ri rfl (fun r_4648 => ?_)
        exact g_X2_walk_K118_f ih
theorem g_X2_walk_K38_f {x_3690 : Int32} {ri_3691 : Nat → Nat → Int32} {k_g_X2_walk_L2 : (Int32) → (Nat → Nat → Int32) → vM} {I : Nat → Int32} {J : Nat → Int64} {rj : Nat → Nat → Int64} {rq : Nat → Nat → Option Nat} {x_4664 : Int32} (hk_g_X2_walk_L2 : ∀ (x_3690 : Int32) (ri_3691 : Nat → Nat → Int32), FRG id w_X2_walk (I, J, ri_3691, rj, rq) (k_g_X2_walk_L2 x_3690 ri_3691)) : FRG id w_X2_walk (I, J, ri_3691, rj, rq) (g_X2_walk_K38 x_3690 ri_3691 k_g_X2_walk_L2 x_4664) := by
  rw [g_X2_walk_K38_e]
  refine fg_ri rfl (fun r_4669 => ?_)
  refine fg_ap (fun x_4670 => ?_)
  exact hk_g_X2_walk_L2 _ _
theorem g_X2_walk_L2_f {a0 : Int32} {I : Nat → Int32} {J : Nat → Int64} {rj : Nat → Nat → Int64} {rq : Nat → Nat → Option Nat}  : ∀ (n_4167 : Nat) (x_3690 : Int32) (ri_3691 : Nat → Nat → Int32), FRG id w_X2_walk (I, J, ri_3691, rj, rq) (g_X2_walk_L2 a0 I J rj rq n_4167 x_3690 ri_3691) := by
  intro n_4167
  induction n_4167 with
  | zero => intros; exact fv_rt rfl
  | succ n_4167 ih =>
    intro x_3690 ri_3691
    rw [g_X2_walk_L2_e]
    refine fg_ap (fun y_4173 => ?_)
    refine fg_if ?_ ?_
    · exact g_X2_walk_L47_f  _ _ _ _
    · refine fg_ap (fun x_4658 => ?_)
      refine fg_if ?_ ?_
      · refine fg_ap (fun x_4676 => ?_)
        refine fg_ap (fun x_4677 => ?_)
        exact g_X2_walk_K38_f ih
      · exact g_X2_walk_K38_f ih
theorem g_X2_walk_f {a0 : Int32} {I : Nat → Int32} {J : Nat → Int64} {ri : Nat → Nat → Int32} {rj : Nat → Nat → Int64} {rq : Nat → Nat → Option Nat}  : FRG id w_X2_walk (I, J, ri, rj, rq) (g_X2_walk  a0 I J ri rj rq) := by
  rw [g_X2_walk_e]
  exact g_X2_walk_L2_f  _ _ _

def w_X2_tide : wS := ([], [67], [77], [68], [])
theorem g_X2_tide_K84_f {x_574 : Int32} {x_658 : Int64} {k_g_X2_tide_L11 : (Int64) → (Int32) → (Nat → Int64) → (Nat → Nat → Int32) → vM} {I : Nat → Int32} {rj : Nat → Nat → Int64} {rq : Nat → Nat → Option Nat} {J_690 : Nat → Int64} {ri_691 : Nat → Nat → Int32} (hk_g_X2_tide_L11 : ∀ (x_573 : Int64) (x_574 : Int32) (J_575 : Nat → Int64) (ri_576 : Nat → Nat → Int32), FRG id w_X2_tide (I, J_575, ri_576, rj, rq) (k_g_X2_tide_L11 x_573 x_574 J_575 ri_576)) : FRG id w_X2_tide (I, J_690, ri_691, rj, rq) (g_X2_tide_K84 x_574 x_658 k_g_X2_tide_L11 J_690 ri_691) := by
  rw [g_X2_tide_K84_e]
  refine fg_ap (fun x_695 => ?_)
  exact hk_g_X2_tide_L11 _ _ _ _
theorem g_X2_tide_K43_f {a1 : Int32} {x_574 : Int32} {J_575 : Nat → Int64} {ri_576 : Nat → Nat → Int32} {k_g_X2_tide_L11 : (Int64) → (Int32) → (Nat → Int64) → (Nat → Nat → Int32) → vM} {x_646 : Int32} {I : Nat → Int32} {rj : Nat → Nat → Int64} {rq : Nat → Nat → Option Nat} {x_658 : Int64} (hk_g_X2_tide_L11 : ∀ (x_573 : Int64) (x_574 : Int32) (J_575 : Nat → Int64) (ri_576 : Nat → Nat → Int32), FRG id w_X2_tide (I, J_575, ri_576, rj, rq) (k_g_X2_tide_L11 x_573 x_574 J_575 ri_576)) : FRG id w_X2_tide (I, J_575, ri_576, rj, rq) (g_X2_tide_K43 a1 x_574 J_575 ri_576 k_g_X2_tide_L11 x_646 x_658) := by
  rw [g_X2_tide_K43_e]
  refine fg_if ?_ ?_
  · refine fg_ap (fun x_701 => ?_)
    refine fg_ap (fun x_702 => ?_)
    refine fg_ri rfl (fun r_703 => ?_)
    exact g_X2_tide_K84_f hk_g_X2_tide_L11
  · refine fg_ap (fun y_706 => ?_)
    refine fg_ap (fun x_707 => ?_)
    refine fg_ap (fun x_708 => ?_)
    refine fg_J rfl (fun J_709 => ?_)
    refine fg_ri rfl (fun r_711 => ?_)
    exact g_X2_tide_K84_f hk_g_X2_tide_L11
theorem g_X2_tide_L11_f {a0 : Int32} {a1 : Int32} {a2 : Int32} {I : Nat → Int32} {rj : Nat → Nat → Int64} {rq : Nat → Nat → Option Nat}  : ∀ (n_622 : Nat) (x_573 : Int64) (x_574 : Int32) (J_575 : Nat → Int64) (ri_576 : Nat → Nat → Int32), FRG id w_X2_tide (I, J_575, ri_576, rj, rq) (g_X2_tide_L11 a0 a1 a2 I rj rq n_622 x_573 x_574 J_575 ri_576) := by
  intro n_622
  induction n_622 with
  | zero => intros; exact fv_rt rfl
  | succ n_622 ih =>
    intro x_573 x_574 J_575 ri_576
    rw [g_X2_tide_L11_e]
    refine fg_ap (fun y_628 => ?_)
    refine fg_if ?_ ?_
    · refine fg_if ?_ ?_
      · exact fv_rt rfl
      · refine fg_if ?_ ?_
        · exact fv_rt rfl
        · refine fg_rj rfl (fun r_643 => ?_)
          exact fv_rt rfl
    · refine fg_bI g_X2_topOf_f rfl (fun x_646 I_z1 J_z1 ri_z1 rj_z1 rq_z1 h_1 => ?_)
      rw [fe_I h_1, fe_J h_1, fe_ri h_1, fe_rj h_1, fe_rq h_1]
      refine fg_if ?_ ?_
      · exact g_X2_tide_K43_f ih
      · refine fg_ap (fun x_717 => ?_)
        refine fg_ap (fun x_718 => ?_)
        exact g_X2_tide_K43_f ih
theorem g_X2_tide_f {a0 : Int32} {a1 : Int32} {a2 : Int32} {I : Nat → Int32} {J : Nat → Int64} {ri : Nat → Nat → Int32} {rj : Nat → Nat → Int64} {rq : Nat → Nat → Option Nat}  : FRG id w_X2_tide (I, J, ri, rj, rq) (g_X2_tide  a0 a1 a2 I J ri rj rq) := by
  rw [g_X2_tide_e]
  refine fg_J rfl (fun J_1 => ?_)
  exact g_X2_tide_L11_f  _ _ _ _ _

def w_X2_giveUpBeds : wS := ([], [], [76], [], [])
theorem g_X2_giveUpBeds_K25_f {x_286 : Int32} {k_g_X2_giveUpBeds_L2 : (Int32) → (Nat → Nat → Int32) → vM} {I : Nat → Int32} {J : Nat → Int64} {rj : Nat → Nat → Int64} {rq : Nat → Nat → Option Nat} {ri_336 : Nat → Nat → Int32} (hk_g_X2_giveUpBeds_L2 : ∀ (x_286 : Int32) (ri_287 : Nat → Nat → Int32), FRG id w_X2_giveUpBeds (I, J, ri_287, rj, rq) (k_g_X2_giveUpBeds_L2 x_286 ri_287)) : FRG id w_X2_giveUpBeds (I, J, ri_336, rj, rq) (g_X2_giveUpBeds_K25 x_286 k_g_X2_giveUpBeds_L2 ri_336) := by
  rw [g_X2_giveUpBeds_K25_e]
  refine fg_ap (fun x_340 => ?_)
  exact hk_g_X2_giveUpBeds_L2 _ _
theorem g_X2_giveUpBeds_L2_f {I : Nat → Int32} {J : Nat → Int64} {rj : Nat → Nat → Int64} {rq : Nat → Nat → Option Nat}  : ∀ (n_311 : Nat) (x_286 : Int32) (ri_287 : Nat → Nat → Int32), FRG id w_X2_giveUpBeds (I, J, ri_287, rj, rq) (g_X2_giveUpBeds_L2 I J rj rq n_311 x_286 ri_287) := by
  intro n_311
  induction n_311 with
  | zero => intros; exact fv_rt rfl
  | succ n_311 ih =>
    intro x_286 ri_287
    rw [g_X2_giveUpBeds_L2_e]
    refine fg_ap (fun y_317 => ?_)
    refine fg_if ?_ ?_
    · exact fv_rt rfl
    · refine fg_bI g_X2_isDry_f rfl (fun x_323 I_z1 J_z1 ri_z1 rj_z1 rq_z1 h_1 => ?_)
      rw [fe_I h_1, fe_J h_1, fe_ri h_1, fe_rj h_1, fe_rq h_1]
      refine fg_if ?_ ?_
      · refine fg_ri rfl (fun r_348 => ?_)
        exact g_X2_giveUpBeds_K25_f ih
      · exact g_X2_giveUpBeds_K25_f ih
theorem g_X2_giveUpBeds_f {I : Nat → Int32} {J : Nat → Int64} {ri : Nat → Nat → Int32} {rj : Nat → Nat → Int64} {rq : Nat → Nat → Option Nat}  : FRG id w_X2_giveUpBeds (I, J, ri, rj, rq) (g_X2_giveUpBeds  I J ri rj rq) := by
  rw [g_X2_giveUpBeds_e]
  exact g_X2_giveUpBeds_L2_f  _ _ _

def w_X2_countWalls : wS := ([], [], [], [], [])
theorem g_X2_countWalls_K24_f {x_470 : Int32} {k_g_X2_countWalls_L4 : (Int32) → (Int32) → Int32 × vM} {I : Nat → Int32} {J : Nat → Int64} {ri : Nat → Nat → Int32} {rj : Nat → Nat → Int64} {rq : Nat → Nat → Option Nat} {x_505 : Int32} (hk_g_X2_countWalls_L4 : ∀ (x_469 : Int32) (x_470 : Int32), FRG Prod.snd w_X2_countWalls (I, J, ri, rj, rq) (k_g_X2_countWalls_L4 x_469 x_470)) : FRG Prod.snd w_X2_countWalls (I, J, ri, rj, rq) (g_X2_countWalls_K24 x_470 k_g_X2_countWalls_L4 x_505) := by
  rw [g_X2_countWalls_K24_e]
  refine fg_ap (fun x_509 => ?_)
  exact hk_g_X2_countWalls_L4 _ _
theorem g_X2_countWalls_L4_f {I : Nat → Int32} {J : Nat → Int64} {ri : Nat → Nat → Int32} {rj : Nat → Nat → Int64} {rq : Nat → Nat → Option Nat}  : ∀ (n_487 : Nat) (x_469 : Int32) (x_470 : Int32), FRG Prod.snd w_X2_countWalls (I, J, ri, rj, rq) (g_X2_countWalls_L4 I J ri rj rq n_487 x_469 x_470) := by
  intro n_487
  induction n_487 with
  | zero => intros; exact fv_rt rfl
  | succ n_487 ih =>
    intro x_469 x_470
    rw [g_X2_countWalls_L4_e]
    refine fg_ap (fun y_493 => ?_)
    refine fg_if ?_ ?_
    · exact fv_rt rfl
    · refine fg_ap (fun x_500 => ?_)
      refine fg_if ?_ ?_
      · exact g_X2_countWalls_K24_f ih
      · refine fg_ap (fun x_516 => ?_)
        exact g_X2_countWalls_K24_f ih
theorem g_X2_countWalls_f {I : Nat → Int32} {J : Nat → Int64} {ri : Nat → Nat → Int32} {rj : Nat → Nat → Int64} {rq : Nat → Nat → Option Nat}  : FRG Prod.snd w_X2_countWalls (I, J, ri, rj, rq) (g_X2_countWalls  I J ri rj rq) := by
  rw [g_X2_countWalls_e]
  exact g_X2_countWalls_L4_f  _ _ _


def w_X2_measure : wS := ([], [], [83], [], [])
theorem g_X2_measure_K41_f {x_1237 : Int32} {ri_1238 : Nat → Nat → Int32} {k_g_X2_measure_L4 : (Int32) → (Int32) → (Nat → Nat → Int32) → vM} {x_1426 : Int32} {I : Nat → Int32} {J : Nat → Int64} {rj : Nat → Nat → Int64} {rq : Nat → Nat → Option Nat} (hk_g_X2_measure_L4 : ∀ (x_1236 : Int32) (x_1237 : Int32) (ri_1238 : Nat → Nat → Int32), FRG id w_X2_measure (I, J, ri_1238, rj, rq) (k_g_X2_measure_L4 x_1236 x_1237 ri_1238)) : FRG id w_X2_measure (I, J, ri_1238, rj, rq) (g_X2_measure_K41 x_1237 ri_1238 k_g_X2_measure_L4 x_1426 ) := by
  rw [g_X2_measure_K41_e]
  refine fg_ri rfl (fun r_1473 => ?_)
  refine fg_ap (fun x_1474 => ?_)
  exact hk_g_X2_measure_L4 _ _ _
theorem g_X2_measure_L18_f {a0 : Int32} {I : Nat → Int32} {J : Nat → Int64} {rj : Nat → Nat → Int64} {rq : Nat → Nat → Option Nat} {x_1237 : Int32} {ri_1238 : Nat → Nat → Int32} {k_g_X2_measure_L4 : (Int32) → (Int32) → (Nat → Nat → Int32) → vM} (hk_g_X2_measure_L4 : ∀ (x_1236 : Int32) (x_1237 : Int32) (ri_1238 : Nat → Nat → Int32), FRG id w_X2_measure (I, J, ri_1238, rj, rq) (k_g_X2_measure_L4 x_1236 x_1237 ri_1238)) : ∀ (n_1448 : Nat) (x_1426 : Int32), FRG id w_X2_measure (I, J, ri_1238, rj, rq) (g_X2_measure_L18 a0 I J rj rq x_1237 ri_1238 k_g_X2_measure_L4 n_1448 x_1426) := by
  intro n_1448
  induction n_1448 with
  | zero => intros; exact fv_rt rfl
  | succ n_1448 ih =>
    intro x_1426
    rw [g_X2_measure_L18_e]
    refine fg_if ?_ ?_
    · exact g_X2_measure_K41_f hk_g_X2_measure_L4
    · refine fg_ap (fun x_1481 => ?_)
      refine fg_ap (fun x_1483 => ?_)
      refine fg_ap (fun x_1485 => ?_)
      refine fg_ap (fun x_1487 => ?_)
      refine fg_if ?_ ?_
      · exact g_X2_measure_K41_f hk_g_X2_measure_L4
      · refine fg_ap (fun x_1494 => ?_)
        exact ih _
theorem g_X2_measure_L4_f {a0 : Int32} {I : Nat → Int32} {J : Nat → Int64} {rj : Nat → Nat → Int64} {rq : Nat → Nat → Option Nat}  : ∀ (n_1351 : Nat) (x_1236 : Int32) (x_1237 : Int32) (ri_1238 : Nat → Nat → Int32), FRG id w_X2_measure (I, J, ri_1238, rj, rq) (g_X2_measure_L4 a0 I J rj rq n_1351 x_1236 x_1237 ri_1238) := by
  intro n_1351
  induction n_1351 with
  | zero => intros; exact fv_rt rfl
  | succ n_1351 ih =>
    intro x_1236 x_1237 ri_1238
    rw [g_X2_measure_L4_e]
    refine fg_if ?_ ?_
    · exact fv_rt rfl
    · exact g_X2_measure_L18_f ih _ _
theorem g_X2_measure_f {a0 : Int32} {I : Nat → Int32} {J : Nat → Int64} {ri : Nat → Nat → Int32} {rj : Nat → Nat → Int64} {rq : Nat → Nat → Option Nat}  : FRG id w_X2_measure (I, J, ri, rj, rq) (g_X2_measure  a0 I J ri rj rq) := by
  rw [g_X2_measure_e]
  exact g_X2_measure_L4_f  _ _ _ _


def w_X2_mark : wS := ([], [], [82], [], [])
theorem g_X2_mark_K102_f {x_222 : Int32} {k_g_X2_mark_L23 : (Int32) → (Nat → Nat → Int32) → vM} {I : Nat → Int32} {J : Nat → Int64} {rj : Nat → Nat → Int64} {rq : Nat → Nat → Option Nat} {ri_296 : Nat → Nat → Int32} (hk_g_X2_mark_L23 : ∀ (x_222 : Int32) (ri_223 : Nat → Nat → Int32), FRG id w_X2_mark (I, J, ri_223, rj, rq) (k_g_X2_mark_L23 x_222 ri_223)) : FRG id w_X2_mark (I, J, ri_296, rj, rq) (g_X2_mark_K102 x_222 k_g_X2_mark_L23 ri_296) := by
  rw [g_X2_mark_K102_e]
  refine fg_ap (fun x_300 => ?_)
  exact hk_g_X2_mark_L23 _ _
theorem g_X2_mark_L23_f {a0 : Int32} {a1 : Int32} {I : Nat → Int32} {J : Nat → Int64} {rj : Nat → Nat → Int64} {rq : Nat → Nat → Option Nat} {x_7 : Int32}  : ∀ (n_259 : Nat) (x_222 : Int32) (ri_223 : Nat → Nat → Int32), FRG id w_X2_mark (I, J, ri_223, rj, rq) (g_X2_mark_L23 a0 a1 I J rj rq x_7 n_259 x_222 ri_223) := by
  intro n_259
  induction n_259 with
  | zero => intros; exact fv_rt rfl
  | succ n_259 ih =>
    intro x_222 ri_223
    rw [g_X2_mark_L23_e]
    refine fg_if ?_ ?_
    · exact fv_rt rfl
    · refine fg_ap (fun x_269 => ?_)
      refine fg_ap (fun x_271 => ?_)
      refine fg_if ?_ ?_
      · exact g_X2_mark_K102_f ih
      · refine fg_ap (fun x_307 => ?_)
        refine fg_ap (fun x_309 => ?_)
        refine fg_ap (fun x_311 => ?_)
        refine fg_ap (fun x_313 => ?_)
        refine fg_ap (fun x_315 => ?_)
        refine fg_ap (fun x_318 => ?_)
        refine fg_ap (fun x_319 => ?_)
        refine fg_ap (fun x_320 => ?_)
        refine fg_ap (fun x_322 => ?_)
        refine fg_ap (fun x_323 => ?_)
        refine fg_ap (fun x_324 => ?_)
        refine fg_ri rfl (fun r_325 => ?_)
        exact g_X2_mark_K102_f ih
theorem g_X2_mark_f {a0 : Int32} {a1 : Int32} {a2 : Int32} {I : Nat → Int32} {J : Nat → Int64} {ri : Nat → Nat → Int32} {rj : Nat → Nat → Int64} {rq : Nat → Nat → Option Nat}  : FRG id w_X2_mark (I, J, ri, rj, rq) (g_X2_mark  a0 a1 a2 I J ri rj rq) := by
  rw [g_X2_mark_e]
  refine fg_ap (fun x_1 => ?_)
  refine fg_ap (fun x_3 => ?_)
  refine fg_ap (fun x_5 => ?_)
  refine fg_ap (fun x_7 => ?_)
  exact g_X2_mark_L23_f  _ _ _

def w_X2_countArea : wS := ([], [], [82, 83], [], [])
theorem g_X2_countArea_L65_f {I : Nat → Int32} {J : Nat → Int64} {rj : Nat → Nat → Int64} {rq : Nat → Nat → Option Nat} {ri_3293 : Nat → Nat → Int32}  : ∀ (n_3797 : Nat) (x_3779 : Int32) (x_3780 : Int32), FRG Prod.snd w_X2_countArea (I, J, ri_3293, rj, rq) (g_X2_countArea_L65 I J rj rq ri_3293 n_3797 x_3779 x_3780) := by
  intro n_3797
  induction n_3797 with
  | zero => intros; exact fv_rt rfl
  | succ n_3797 ih =>
    intro x_3779 x_3780
    rw [g_X2_countArea_L65_e]
    refine fg_if ?_ ?_
    · exact fv_rt rfl
    · refine fg_ap (fun x_3807 => ?_)
      refine fg_ap (fun x_3808 => ?_)
      refine fg_ap (fun x_3815 => ?_)
      refine fg_ap (fun x_3816 => ?_)
      exact ih _ _
theorem g_X2_countArea_K53_f {x_3292 : Int32} {k_g_X2_countArea_L16 : (Int32) → (Nat → Nat → Int32) → Int32 × vM} {I : Nat → Int32} {J : Nat → Int64} {rj : Nat → Nat → Int64} {rq : Nat → Nat → Option Nat} {ri_3845 : Nat → Nat → Int32} (hk_g_X2_countArea_L16 : ∀ (x_3292 : Int32) (ri_3293 : Nat → Nat → Int32), FRG Prod.snd w_X2_countArea (I, J, ri_3293, rj, rq) (k_g_X2_countArea_L16 x_3292 ri_3293)) : FRG Prod.snd w_X2_countArea (I, J, ri_3845, rj, rq) (g_X2_countArea_K53 x_3292 k_g_X2_countArea_L16 ri_3845) := by
  rw [g_X2_countArea_K53_e]
  refine fg_ap (fun x_3849 => ?_)
  exact hk_g_X2_countArea_L16 _ _
theorem g_X2_countArea_L16_f {a0 : Int64} {a1 : Int32} {I : Nat → Int32} {J : Nat → Int64} {rj : Nat → Nat → Int64} {rq : Nat → Nat → Option Nat}  : ∀ (n_3566 : Nat) (x_3292 : Int32) (ri_3293 : Nat → Nat → Int32), FRG Prod.snd w_X2_countArea (I, J, ri_3293, rj, rq) (g_X2_countArea_L16 a0 a1 I J rj rq n_3566 x_3292 ri_3293) := by
  intro n_3566
  induction n_3566 with
  | zero => intros; exact fv_rt rfl
  | succ n_3566 ih =>
    intro x_3292 ri_3293
    rw [g_X2_countArea_L16_e]
    refine fg_ap (fun y_3572 => ?_)
    refine fg_if ?_ ?_
    · exact g_X2_countArea_L65_f  _ _ _
    · refine fg_ap (fun x_3820 => ?_)
      refine fg_if ?_ ?_
      · exact g_X2_countArea_K53_f ih
      · refine fg_ap (fun x_3857 => ?_)
        refine fg_ap (fun x_3860 => ?_)
        refine fg_bV g_X2_mark_f rfl (fun I_z1 J_z1 ri_3864 rj_z1 rq_z1 h_1 => ?_)
        rw [fe_I h_1, fe_J h_1, fe_rj h_1, fe_rq h_1]
        exact g_X2_countArea_K53_f ih
theorem g_X2_countArea_f {a0 : Int64} {a1 : Int32} {I : Nat → Int32} {J : Nat → Int64} {ri : Nat → Nat → Int32} {rj : Nat → Nat → Int64} {rq : Nat → Nat → Option Nat}  : FRG Prod.snd w_X2_countArea (I, J, ri, rj, rq) (g_X2_countArea  a0 a1 I J ri rj rq) := by
  rw [g_X2_countArea_e]
  refine fg_ri rfl (fun ri_4 => ?_)
  refine fg_bV g_X2_measure_f rfl (fun I_z2 J_z2 ri_13 rj_z2 rq_z2 h_2 => ?_)
  rw [fe_I h_2, fe_J h_2, fe_rj h_2, fe_rq h_2]
  exact g_X2_countArea_L16_f  _ _ _




def w_X3_copyFrom : wS := ([96, 98], [], [99, 100, 101], [], [97])
theorem g_X3_copyFrom_L10_f {J : Nat → Int64} {ri : Nat → Nat → Int32} {rj : Nat → Nat → Int64} {nI : Nat → Int32} {I_3 : Nat → Int32} {nQ : Nat → Nat → Option Nat} {nR : Nat → Nat → Int32}  : ∀ (n_238 : Nat) (x_180 : Int32) (rq_181 : Nat → Nat → Option Nat), FRG id w_X3_copyFrom (I_3, J, ri, rj, rq_181) (g_X3_copyFrom_L10 J ri rj nI I_3 nQ nR n_238 x_180 rq_181) := by
  intro n_238
  induction n_238 with
  | zero => intros; exact fv_rt rfl
  | succ n_238 ih =>
    intro x_180 rq_181
    rw [g_X3_copyFrom_L10_e]
    refine fg_if ?_ ?_
    · refine fg_ap (fun y_248 => ?_)
      refine fg_I rfl (fun I_249 => ?_)
      refine fg_ri rfl (fun ri_254 => ?_)
      refine fg_ri rfl (fun ri_267 => ?_)
      refine fg_ri rfl (fun ri_280 => ?_)
      exact fv_rt rfl
    · refine fg_op ?_ (fun w_x_292 => ?_)
      · refine fg_rq rfl (fun rq_293 => ?_)
        refine fg_ap (fun x_294 => ?_)
        exact ih _ _
      · refine fg_rq rfl (fun rq_296 => ?_)
        refine fg_ap (fun x_297 => ?_)
        exact ih _ _
theorem g_X3_copyFrom_f {nI : Nat → Int32} {nR : Nat → Nat → Int32} {nQ : Nat → Nat → Option Nat} {I : Nat → Int32} {J : Nat → Int64} {ri : Nat → Nat → Int32} {rj : Nat → Nat → Int64} {rq : Nat → Nat → Option Nat}  : FRG id w_X3_copyFrom (I, J, ri, rj, rq) (g_X3_copyFrom  nI nR nQ I J ri rj rq) := by
  rw [g_X3_copyFrom_e]
  refine fg_ap (fun y_2 => ?_)
  refine fg_I rfl (fun I_3 => ?_)
  exact g_X3_copyFrom_L10_f  _ _ _

def w_X8_firstOf : wS := ([], [], [], [], [])
theorem g_X8_firstOf_L2_f {this : Nat} {a0 : Int32} {I : Nat → Int32} {J : Nat → Int64} {ri : Nat → Nat → Int32} {rj : Nat → Nat → Int64} {rq : Nat → Nat → Option Nat} {tI : Nat → Nat → Int32} {tR : Nat → Nat → Nat → Int32}  : ∀ (n_144 : Nat) (x_127 : Int32), FRG Prod.snd w_X8_firstOf (I, J, ri, rj, rq) (g_X8_firstOf_L2 this a0 I J ri rj rq tI tR n_144 x_127) := by
  intro n_144
  induction n_144 with
  | zero => intros; exact fv_rt rfl
  | succ n_144 ih =>
    intro x_127
    rw [g_X8_firstOf_L2_e]
    refine fg_ap (fun y_150 => ?_)
    refine fg_if ?_ ?_
    · exact fv_rt rfl
    · refine fg_ap (fun x_161 => ?_)
      refine fg_if ?_ ?_
      · exact fv_rt rfl
      · refine fg_ap (fun x_166 => ?_)
        exact ih _
theorem g_X8_firstOf_f {tI : Nat → Nat → Int32} {tR : Nat → Nat → Nat → Int32} {this : Nat} {a0 : Int32} {I : Nat → Int32} {J : Nat → Int64} {ri : Nat → Nat → Int32} {rj : Nat → Nat → Int64} {rq : Nat → Nat → Option Nat}  : FRG Prod.snd w_X8_firstOf (I, J, ri, rj, rq) (g_X8_firstOf  tI tR this a0 I J ri rj rq) := by
  rw [g_X8_firstOf_e]
  exact g_X8_firstOf_L2_f  _ _

def w_X3_textFor : wS := ([], [], [], [], [])
theorem g_X3_textFor_K62_f {x_102 : Int32} {k_g_X3_textFor_L7 : (Int32) → Option Nat × vM} {I : Nat → Int32} {J : Nat → Int64} {ri : Nat → Nat → Int32} {rj : Nat → Nat → Int64} {rq : Nat → Nat → Option Nat} (hk_g_X3_textFor_L7 : ∀ (x_102 : Int32), FRG Prod.snd w_X3_textFor (I, J, ri, rj, rq) (k_g_X3_textFor_L7 x_102)) : FRG Prod.snd w_X3_textFor (I, J, ri, rj, rq) (g_X3_textFor_K62 x_102 k_g_X3_textFor_L7 ) := by
  rw [g_X3_textFor_K62_e]
  refine fg_ap (fun x_175 => ?_)
  exact hk_g_X3_textFor_L7 _
theorem g_X3_textFor_L7_f {a0 : Int32} {a1 : Int32} {I : Nat → Int32} {J : Nat → Int64} {ri : Nat → Nat → Int32} {rj : Nat → Nat → Int64} {rq : Nat → Nat → Option Nat} {tI : Nat → Nat → Int32} {tR : Nat → Nat → Nat → Int32}  : ∀ (n_136 : Nat) (x_102 : Int32), FRG Prod.snd w_X3_textFor (I, J, ri, rj, rq) (g_X3_textFor_L7 a0 a1 I J ri rj rq tI tR n_136 x_102) := by
  intro n_136
  induction n_136 with
  | zero => intros; exact fv_rt rfl
  | succ n_136 ih =>
    intro x_102
    rw [g_X3_textFor_L7_e]
    refine fg_if ?_ ?_
    · exact fv_rt rfl
    · refine fg_ap (fun x_147 => ?_)
      refine fg_if ?_ ?_
      · exact g_X3_textFor_K62_f ih
      · refine fg_ap (fun x_183 => ?_)
        refine fg_if ?_ ?_
        · exact g_X3_textFor_K62_f ih
        · refine fg_ap (fun x_191 => ?_)
          refine fg_op ?_ (fun w_x_193 => ?_)
          · exact g_X3_textFor_K62_f ih
          · refine fg_bI g_X8_firstOf_f rfl (fun x_194 I_z1 J_z1 ri_z1 rj_z1 rq_z1 h_1 => ?_)
            rw [fe_I h_1, fe_J h_1, fe_ri h_1, fe_rj h_1, fe_rq h_1]
            refine fg_if ?_ ?_
            · exact g_X3_textFor_K62_f ih
            · exact fv_rt rfl
theorem g_X3_textFor_f {tI : Nat → Nat → Int32} {tR : Nat → Nat → Nat → Int32} {a0 : Int32} {a1 : Int32} {I : Nat → Int32} {J : Nat → Int64} {ri : Nat → Nat → Int32} {rj : Nat → Nat → Int64} {rq : Nat → Nat → Option Nat}  : FRG Prod.snd w_X3_textFor (I, J, ri, rj, rq) (g_X3_textFor  tI tR a0 a1 I J ri rj rq) := by
  rw [g_X3_textFor_e]
  refine fg_ap (fun y_2 => ?_)
  refine fg_ap (fun x_3 => ?_)
  exact g_X3_textFor_L7_f  _ _

def w_X8_numberOf : wS := ([], [], [], [], [])
theorem g_X8_numberOf_f {tI : Nat → Nat → Int32} {tR : Nat → Nat → Nat → Int32} {this : Nat} {a0 : Int32} {a1 : Int32} {I : Nat → Int32} {J : Nat → Int64} {ri : Nat → Nat → Int32} {rj : Nat → Nat → Int64} {rq : Nat → Nat → Option Nat}  : FRG Prod.snd w_X8_numberOf (I, J, ri, rj, rq) (g_X8_numberOf  tI tR this a0 a1 I J ri rj rq) := by
  rw [g_X8_numberOf_e]
  refine fg_bI g_X8_firstOf_f rfl (fun x_1 I_z1 J_z1 ri_z1 rj_z1 rq_z1 h_1 => ?_)
  rw [fe_I h_1, fe_J h_1, fe_ri h_1, fe_rj h_1, fe_rq h_1]
  refine fg_if ?_ ?_
  · exact fv_rt rfl
  · refine fg_ap (fun x_19 => ?_)
    refine fg_ap (fun x_21 => ?_)
    exact fv_rt rfl

def w_X3_numberIn : wS := ([], [], [], [], [])
theorem g_X3_numberIn_f {tI : Nat → Nat → Int32} {tR : Nat → Nat → Nat → Int32} {a0 : Int32} {a1 : Int32} {a2 : Int32} {I : Nat → Int32} {J : Nat → Int64} {ri : Nat → Nat → Int32} {rj : Nat → Nat → Int64} {rq : Nat → Nat → Option Nat}  : FRG Prod.snd w_X3_numberIn (I, J, ri, rj, rq) (g_X3_numberIn  tI tR a0 a1 a2 I J ri rj rq) := by
  rw [g_X3_numberIn_e]
  refine fg_bI g_X3_textFor_f rfl (fun x_1 I_z1 J_z1 ri_z1 rj_z1 rq_z1 h_1 => ?_)
  rw [fe_I h_1, fe_J h_1, fe_ri h_1, fe_rj h_1, fe_rq h_1]
  refine fg_op ?_ (fun w_x_1 => ?_)
  · exact fv_rt rfl
  · refine fg_bI g_X8_numberOf_f rfl (fun x_8 I_z2 J_z2 ri_z2 rj_z2 rq_z2 h_2 => ?_)
    rw [fe_I h_2, fe_J h_2, fe_ri h_2, fe_rj h_2, fe_rq h_2]
    exact fv_rt rfl

def w_X3_leaveIn : wS := ([], [], [], [], [])
theorem g_X3_leaveIn_f {tI : Nat → Nat → Int32} {tR : Nat → Nat → Nat → Int32} {a0 : Int32} {I : Nat → Int32} {J : Nat → Int64} {ri : Nat → Nat → Int32} {rj : Nat → Nat → Int64} {rq : Nat → Nat → Option Nat}  : FRG Prod.snd w_X3_leaveIn (I, J, ri, rj, rq) (g_X3_leaveIn  tI tR a0 I J ri rj rq) := by
  rw [g_X3_leaveIn_e]
  refine fg_bI g_X3_numberIn_f rfl (fun x_1 I_z1 J_z1 ri_z1 rj_z1 rq_z1 h_1 => ?_)
  rw [fe_I h_1, fe_J h_1, fe_ri h_1, fe_rj h_1, fe_rq h_1]
  exact fv_rt rfl

def w_X3_fixIn : wS := ([], [], [], [], [])
theorem g_X3_fixIn_f {tI : Nat → Nat → Int32} {tR : Nat → Nat → Nat → Int32} {a0 : Int32} {I : Nat → Int32} {J : Nat → Int64} {ri : Nat → Nat → Int32} {rj : Nat → Nat → Int64} {rq : Nat → Nat → Option Nat}  : FRG Prod.snd w_X3_fixIn (I, J, ri, rj, rq) (g_X3_fixIn  tI tR a0 I J ri rj rq) := by
  rw [g_X3_fixIn_e]
  refine fg_bI g_X3_numberIn_f rfl (fun x_1 I_z1 J_z1 ri_z1 rj_z1 rq_z1 h_1 => ?_)
  rw [fe_I h_1, fe_J h_1, fe_ri h_1, fe_rj h_1, fe_rq h_1]
  exact fv_rt rfl

def w_X3_nameAll : wS := ([], [], [102], [], [])
theorem g_X3_nameAll_L4_f {a1 : Int32} {a2 : Int32} {a3 : Int32} {I : Nat → Int32} {J : Nat → Int64} {rj : Nat → Nat → Int64} {rq : Nat → Nat → Option Nat}  : ∀ (n_152 : Nat) (x_130 : Int32) (ri_131 : Nat → Nat → Int32), FRG id w_X3_nameAll (I, J, ri_131, rj, rq) (g_X3_nameAll_L4 a1 a2 a3 I J rj rq n_152 x_130 ri_131) := by
  intro n_152
  induction n_152 with
  | zero => intros; exact fv_rt rfl
  | succ n_152 ih =>
    intro x_130 ri_131
    rw [g_X3_nameAll_L4_e]
    refine fg_if ?_ ?_
    · refine fg_ri rfl (fun r_162 => ?_)
      exact fv_rt rfl
    · refine fg_ap (fun x_165 => ?_)
      refine fg_bI g_X0_valueOf_f rfl (fun x_167 I_z1 J_z1 ri_z1 rj_z1 rq_z1 h_1 => ?_)
      rw [fe_I h_1, fe_J h_1, fe_ri h_1, fe_rj h_1, fe_rq h_1]
      refine fg_ri rfl (fun r_174 => ?_)
      refine fg_ap (fun x_175 => ?_)
      exact ih _ _
theorem g_X3_nameAll_f {a1 : Int32} {a2 : Int32} {a3 : Int32} {I : Nat → Int32} {J : Nat → Int64} {ri : Nat → Nat → Int32} {rj : Nat → Nat → Int64} {rq : Nat → Nat → Option Nat}  : FRG id w_X3_nameAll (I, J, ri, rj, rq) (g_X3_nameAll  a1 a2 a3 I J ri rj rq) := by
  rw [g_X3_nameAll_e]
  exact g_X3_nameAll_L4_f  _ _ _


def w_X8_work_102_103 : wS := ([], [], [103], [], [])
theorem g_X8_work_102_103_K172_f {x_904 : Int32} {k_g_X8_work_102_103_L11 : (Int32) → (Int32) → (Nat → Nat → Int32) → Int32 × vM} {I : Nat → Int32} {J : Nat → Int64} {rj : Nat → Nat → Int64} {rq : Nat → Nat → Option Nat} {x_1072 : Int32} {ri_1073 : Nat → Nat → Int32} (hk_g_X8_work_102_103_L11 : ∀ (x_903 : Int32) (x_904 : Int32) (ri_905 : Nat → Nat → Int32), FRG Prod.snd w_X8_work_102_103 (I, J, ri_905, rj, rq) (k_g_X8_work_102_103_L11 x_903 x_904 ri_905)) : FRG Prod.snd w_X8_work_102_103 (I, J, ri_1073, rj, rq) (g_X8_work_102_103_K172 x_904 k_g_X8_work_102_103_L11 x_1072 ri_1073) := by
  rw [g_X8_work_102_103_K172_e]
  refine fg_ap (fun x_1080 => ?_)
  exact hk_g_X8_work_102_103_L11 _ _ _
theorem g_X8_work_102_103_K90_f {x_904 : Int32} {ri_905 : Nat → Nat → Int32} {k_g_X8_work_102_103_L11 : (Int32) → (Int32) → (Nat → Nat → Int32) → Int32 × vM} {x_1009 : Int32} {x_1086 : Int32} {I : Nat → Int32} {J : Nat → Int64} {rj : Nat → Nat → Int64} {rq : Nat → Nat → Option Nat} (hk_g_X8_work_102_103_L11 : ∀ (x_903 : Int32) (x_904 : Int32) (ri_905 : Nat → Nat → Int32), FRG Prod.snd w_X8_work_102_103 (I, J, ri_905, rj, rq) (k_g_X8_work_102_103_L11 x_903 x_904 ri_905)) : FRG Prod.snd w_X8_work_102_103 (I, J, ri_905, rj, rq) (g_X8_work_102_103_K90 x_904 ri_905 k_g_X8_work_102_103_L11 x_1009 x_1086 ) := by
  rw [g_X8_work_102_103_K90_e]
  refine fg_ri rfl (fun r_1095 => ?_)
  exact g_X8_work_102_103_K172_f hk_g_X8_work_102_103_L11
theorem g_X8_work_102_103_K139_f {x_903 : Int32} {x_904 : Int32} {ri_905 : Nat → Nat → Int32} {k_g_X8_work_102_103_L11 : (Int32) → (Int32) → (Nat → Nat → Int32) → Int32 × vM} {I : Nat → Int32} {J : Nat → Int64} {rj : Nat → Nat → Int64} {rq : Nat → Nat → Option Nat} {x_1199 : Int32} (hk_g_X8_work_102_103_L11 : ∀ (x_903 : Int32) (x_904 : Int32) (ri_905 : Nat → Nat → Int32), FRG Prod.snd w_X8_work_102_103 (I, J, ri_905, rj, rq) (k_g_X8_work_102_103_L11 x_903 x_904 ri_905)) : FRG Prod.snd w_X8_work_102_103 (I, J, ri_905, rj, rq) (g_X8_work_102_103_K139 x_903 x_904 ri_905 k_g_X8_work_102_103_L11 x_1199) := by
  rw [g_X8_work_102_103_K139_e]
  refine fg_ri rfl (fun r_1202 => ?_)
  exact g_X8_work_102_103_K172_f hk_g_X8_work_102_103_L11
theorem g_X8_work_102_103_K108_f {I : Nat → Int32} {J : Nat → Int64} {rj : Nat → Nat → Int64} {rq : Nat → Nat → Option Nat} {x_903 : Int32} {x_904 : Int32} {ri_905 : Nat → Nat → Int32} {k_g_X8_work_102_103_L11 : (Int32) → (Int32) → (Nat → Nat → Int32) → Int32 × vM} {x_1010 : Int32} (hk_g_X8_work_102_103_L11 : ∀ (x_903 : Int32) (x_904 : Int32) (ri_905 : Nat → Nat → Int32), FRG Prod.snd w_X8_work_102_103 (I, J, ri_905, rj, rq) (k_g_X8_work_102_103_L11 x_903 x_904 ri_905)) : FRG Prod.snd w_X8_work_102_103 (I, J, ri_905, rj, rq) (g_X8_work_102_103_K108 I J rj rq x_903 x_904 ri_905 k_g_X8_work_102_103_L11 x_1010 ) := by
  rw [g_X8_work_102_103_K108_e]
  refine fg_if ?_ ?_
  · refine fg_if ?_ ?_
    · refine fg_ap (fun x_1210 => ?_)
      refine fg_ap (fun x_1211 => ?_)
      exact g_X8_work_102_103_K139_f hk_g_X8_work_102_103_L11
    · refine fg_ap (fun x_1207 => ?_)
      refine fg_ap (fun x_1208 => ?_)
      exact g_X8_work_102_103_K139_f hk_g_X8_work_102_103_L11
  · exact fv_rt rfl
theorem g_X8_work_102_103_K94_f {I : Nat → Int32} {J : Nat → Int64} {rj : Nat → Nat → Int64} {rq : Nat → Nat → Option Nat} {x_903 : Int32} {x_904 : Int32} {ri_905 : Nat → Nat → Int32} {k_g_X8_work_102_103_L11 : (Int32) → (Int32) → (Nat → Nat → Int32) → Int32 × vM} {x_1010 : Int32} (hk_g_X8_work_102_103_L11 : ∀ (x_903 : Int32) (x_904 : Int32) (ri_905 : Nat → Nat → Int32), FRG Prod.snd w_X8_work_102_103 (I, J, ri_905, rj, rq) (k_g_X8_work_102_103_L11 x_903 x_904 ri_905)) : FRG Prod.snd w_X8_work_102_103 (I, J, ri_905, rj, rq) (g_X8_work_102_103_K94 I J rj rq x_903 x_904 ri_905 k_g_X8_work_102_103_L11 x_1010 ) := by
  rw [g_X8_work_102_103_K94_e]
  refine fg_if ?_ ?_
  · exact g_X8_work_102_103_K108_f hk_g_X8_work_102_103_L11
  · refine fg_if ?_ ?_
    · exact g_X8_work_102_103_K108_f hk_g_X8_work_102_103_L11
    · refine fg_ap (fun x_1218 => ?_)
      refine fg_if ?_ ?_
      · refine fg_ap (fun x_1224 => ?_)
        refine fg_ap (fun x_1225 => ?_)
        refine fg_ap (fun x_1227 => ?_)
        refine fg_ap (fun x_1228 => ?_)
        refine fg_ri rfl (fun r_1235 => ?_)
        exact g_X8_work_102_103_K172_f hk_g_X8_work_102_103_L11
      · exact fv_rt rfl
theorem g_X8_work_102_103_K90_2_f {x_904 : Int32} {ri_905 : Nat → Nat → Int32} {k_g_X8_work_102_103_L11 : (Int32) → (Int32) → (Nat → Nat → Int32) → Int32 × vM} {x_1248 : Int32} {I : Nat → Int32} {J : Nat → Int64} {rj : Nat → Nat → Int64} {rq : Nat → Nat → Option Nat} {x_1258 : Int32} (hk_g_X8_work_102_103_L11 : ∀ (x_903 : Int32) (x_904 : Int32) (ri_905 : Nat → Nat → Int32), FRG Prod.snd w_X8_work_102_103 (I, J, ri_905, rj, rq) (k_g_X8_work_102_103_L11 x_903 x_904 ri_905)) : FRG Prod.snd w_X8_work_102_103 (I, J, ri_905, rj, rq) (g_X8_work_102_103_K90_2 x_904 ri_905 k_g_X8_work_102_103_L11 x_1248 x_1258) := by
  rw [g_X8_work_102_103_K90_2_e]
  refine fg_ri rfl (fun r_1261 => ?_)
  exact g_X8_work_102_103_K172_f hk_g_X8_work_102_103_L11
theorem g_X8_work_102_103_L11_f {this : Nat} {a0 : Int32} {I : Nat → Int32} {J : Nat → Int64} {rj : Nat → Nat → Int64} {rq : Nat → Nat → Option Nat} {tR : Nat → Nat → Nat → Int32}  : ∀ (n_988 : Nat) (x_903 : Int32) (x_904 : Int32) (ri_905 : Nat → Nat → Int32), FRG Prod.snd w_X8_work_102_103 (I, J, ri_905, rj, rq) (g_X8_work_102_103_L11 this a0 I J rj rq tR n_988 x_903 x_904 ri_905) := by
  intro n_988
  induction n_988 with
  | zero => intros; exact fv_rt rfl
  | succ n_988 ih =>
    intro x_903 x_904 ri_905
    rw [g_X8_work_102_103_L11_e]
    refine fg_ap (fun x_995 => ?_)
    refine fg_ap (fun x_997 => ?_)
    refine fg_if ?_ ?_
    · refine fg_if ?_ ?_
      · refine fg_ap (fun x_1005 => ?_)
        exact fv_rt rfl
      · exact fv_rt rfl
    · refine fg_ap (fun x_1009 => ?_)
      refine fg_ap (fun x_1010 => ?_)
      refine fg_if ?_ ?_
      · refine fg_ap (fun x_1086 => ?_)
        refine fg_if ?_ ?_
        · exact g_X8_work_102_103_K90_f ih
        · exact fv_rt rfl
      · refine fg_if ?_ ?_
        · exact g_X8_work_102_103_K94_f ih
        · refine fg_if ?_ ?_
          · exact g_X8_work_102_103_K94_f ih
          · refine fg_ap (fun x_1248 => ?_)
            refine fg_if ?_ ?_
            · refine fg_ap (fun x_1263 => ?_)
              refine fg_ap (fun x_1265 => ?_)
              exact g_X8_work_102_103_K90_2_f ih
            · exact fv_rt rfl
theorem g_X8_work_102_103_f {tR : Nat → Nat → Nat → Int32} {this : Nat} {a0 : Int32} {I : Nat → Int32} {J : Nat → Int64} {ri : Nat → Nat → Int32} {rj : Nat → Nat → Int64} {rq : Nat → Nat → Option Nat}  : FRG Prod.snd w_X8_work_102_103 (I, J, ri, rj, rq) (g_X8_work_102_103  tR this a0 I J ri rj rq) := by
  rw [g_X8_work_102_103_e]
  refine fg_ap (fun x_2 => ?_)
  exact g_X8_work_102_103_L11_f  _ _ _ _

def w_X8_firstSo_102_103 : wS := ([], [], [103], [], [])
theorem g_X8_firstSo_102_103_K37_f {x_190 : Int32} {k_g_X8_firstSo_102_103_L3 : (Int32) → (Nat → Nat → Int32) → Int32 × vM} {I : Nat → Int32} {J : Nat → Int64} {rj : Nat → Nat → Int64} {rq : Nat → Nat → Option Nat} {ri_240 : Nat → Nat → Int32} (hk_g_X8_firstSo_102_103_L3 : ∀ (x_190 : Int32) (ri_191 : Nat → Nat → Int32), FRG Prod.snd w_X8_firstSo_102_103 (I, J, ri_191, rj, rq) (k_g_X8_firstSo_102_103_L3 x_190 ri_191)) : FRG Prod.snd w_X8_firstSo_102_103 (I, J, ri_240, rj, rq) (g_X8_firstSo_102_103_K37 x_190 k_g_X8_firstSo_102_103_L3 ri_240) := by
  rw [g_X8_firstSo_102_103_K37_e]
  refine fg_ap (fun x_244 => ?_)
  exact hk_g_X8_firstSo_102_103_L3 _ _
theorem g_X8_firstSo_102_103_L3_f {this : Nat} {a0 : Int32} {I : Nat → Int32} {J : Nat → Int64} {rj : Nat → Nat → Int64} {rq : Nat → Nat → Option Nat} {tI : Nat → Nat → Int32} {tR : Nat → Nat → Nat → Int32}  : ∀ (n_215 : Nat) (x_190 : Int32) (ri_191 : Nat → Nat → Int32), FRG Prod.snd w_X8_firstSo_102_103 (I, J, ri_191, rj, rq) (g_X8_firstSo_102_103_L3 this a0 I J rj rq tI tR n_215 x_190 ri_191) := by
  intro n_215
  induction n_215 with
  | zero => intros; exact fv_rt rfl
  | succ n_215 ih =>
    intro x_190 ri_191
    rw [g_X8_firstSo_102_103_L3_e]
    refine fg_ap (fun y_221 => ?_)
    refine fg_if ?_ ?_
    · exact fv_rt rfl
    · refine fg_ap (fun x_228 => ?_)
      refine fg_if ?_ ?_
      · refine fg_bI g_X8_work_102_103_f rfl (fun x_247 I_z1 J_z1 ri_249 rj_z1 rq_z1 h_1 => ?_)
        rw [fe_I h_1, fe_J h_1, fe_rj h_1, fe_rq h_1]
        refine fg_if ?_ ?_
        · exact g_X8_firstSo_102_103_K37_f ih
        · exact fv_rt rfl
      · exact g_X8_firstSo_102_103_K37_f ih
theorem g_X8_firstSo_102_103_f {tI : Nat → Nat → Int32} {tR : Nat → Nat → Nat → Int32} {this : Nat} {a0 : Int32} {I : Nat → Int32} {J : Nat → Int64} {ri : Nat → Nat → Int32} {rj : Nat → Nat → Int64} {rq : Nat → Nat → Option Nat}  : FRG Prod.snd w_X8_firstSo_102_103 (I, J, ri, rj, rq) (g_X8_firstSo_102_103  tI tR this a0 I J ri rj rq) := by
  rw [g_X8_firstSo_102_103_e]
  exact g_X8_firstSo_102_103_L3_f  _ _ _

def w_X3_whoIsSo : wS := ([], [], [102, 103], [], [])
theorem g_X3_whoIsSo_K77_f {x_569 : Int32} {k_g_X3_whoIsSo_L22 : (Int64) → (Int32) → (Nat → Nat → Int32) → Int64 × vM} {I : Nat → Int32} {J : Nat → Int64} {rj : Nat → Nat → Int64} {rq : Nat → Nat → Option Nat} {x_662 : Int64} {ri_663 : Nat → Nat → Int32} (hk_g_X3_whoIsSo_L22 : ∀ (x_568 : Int64) (x_569 : Int32) (ri_570 : Nat → Nat → Int32), FRG Prod.snd w_X3_whoIsSo (I, J, ri_570, rj, rq) (k_g_X3_whoIsSo_L22 x_568 x_569 ri_570)) : FRG Prod.snd w_X3_whoIsSo (I, J, ri_663, rj, rq) (g_X3_whoIsSo_K77 x_569 k_g_X3_whoIsSo_L22 x_662 ri_663) := by
  rw [g_X3_whoIsSo_K77_e]
  refine fg_ap (fun x_667 => ?_)
  exact hk_g_X3_whoIsSo_L22 _ _ _
theorem g_X3_whoIsSo_L22_f {a0 : Int32} {a1 : Int32} {a3 : Int64} {I : Nat → Int32} {J : Nat → Int64} {rj : Nat → Nat → Int64} {rq : Nat → Nat → Option Nat} {tI : Nat → Nat → Int32} {tR : Nat → Nat → Nat → Int32} {w_x_1 : Nat}  : ∀ (n_616 : Nat) (x_568 : Int64) (x_569 : Int32) (ri_570 : Nat → Nat → Int32), FRG Prod.snd w_X3_whoIsSo (I, J, ri_570, rj, rq) (g_X3_whoIsSo_L22 a0 a1 a3 I J rj rq tI tR w_x_1 n_616 x_568 x_569 ri_570) := by
  intro n_616
  induction n_616 with
  | zero => intros; exact fv_rt rfl
  | succ n_616 ih =>
    intro x_568 x_569 ri_570
    rw [g_X3_whoIsSo_L22_e]
    refine fg_ap (fun y_622 => ?_)
    refine fg_if ?_ ?_
    · exact fv_rt rfl
    · refine fg_ap (fun x_628 => ?_)
      refine fg_if ?_ ?_
      · exact g_X3_whoIsSo_K77_f ih
      · refine fg_bV g_X3_nameAll_f rfl (fun I_z1 J_z1 ri_676 rj_z1 rq_z1 h_1 => ?_)
        rw [fe_I h_1, fe_J h_1, fe_rj h_1, fe_rq h_1]
        refine fg_bI g_X8_firstSo_102_103_f rfl (fun x_684 I_z2 J_z2 ri_686 rj_z2 rq_z2 h_2 => ?_)
        rw [fe_I h_2, fe_J h_2, fe_rj h_2, fe_rq h_2]
        refine fg_if ?_ ?_
        · exact g_X3_whoIsSo_K77_f ih
        · refine fg_ap (fun x_697 => ?_)
          refine fg_ap (fun x_698 => ?_)
          exact g_X3_whoIsSo_K77_f ih
theorem g_X3_whoIsSo_f {tI : Nat → Nat → Int32} {tR : Nat → Nat → Nat → Int32} {a0 : Int32} {a1 : Int32} {a3 : Int64} {I : Nat → Int32} {J : Nat → Int64} {ri : Nat → Nat → Int32} {rj : Nat → Nat → Int64} {rq : Nat → Nat → Option Nat}  : FRG Prod.snd w_X3_whoIsSo (I, J, ri, rj, rq) (g_X3_whoIsSo  tI tR a0 a1 a3 I J ri rj rq) := by
  rw [g_X3_whoIsSo_e]
  refine fg_bI g_X3_textFor_f rfl (fun x_1 I_z3 J_z3 ri_z3 rj_z3 rq_z3 h_3 => ?_)
  rw [fe_I h_3, fe_J h_3, fe_ri h_3, fe_rj h_3, fe_rq h_3]
  refine fg_op ?_ (fun w_x_1 => ?_)
  · exact fv_rt rfl
  · exact g_X3_whoIsSo_L22_f  _ _ _ _

def w_X7_known : wS := ([], [], [], [], [])
theorem g_X7_known_K187_f {I : Nat → Int32} {J : Nat → Int64} {ri : Nat → Nat → Int32} {rj : Nat → Nat → Int64} {rq : Nat → Nat → Option Nat} {x_1641 : Int32}  : FRG Prod.snd w_X7_known (I, J, ri, rj, rq) (g_X7_known_K187 I J ri rj rq x_1641 ) := by
  rw [g_X7_known_K187_e]
  refine fg_ap (fun x_1818 => ?_)
  refine fg_if ?_ ?_
  · exact fv_rt rfl
  · exact fv_rt rfl
theorem g_X7_known_K179_f {I : Nat → Int32} {J : Nat → Int64} {ri : Nat → Nat → Int32} {rj : Nat → Nat → Int64} {rq : Nat → Nat → Option Nat} {x_1639 : Int32} {x_1640 : Int32}  : FRG Prod.snd w_X7_known (I, J, ri, rj, rq) (g_X7_known_K179 I J ri rj rq x_1639 x_1640 ) := by
  rw [g_X7_known_K179_e]
  refine fg_ap (fun x_1876 => ?_)
  exact fv_rt rfl
theorem g_X7_known_K138_f {x_1642 : Int32} {k_g_X7_known_L23 : (Int32) → (Int32) → (Int32) → (Int32) → (Int32) → Int32 × vM} {I : Nat → Int32} {J : Nat → Int64} {ri : Nat → Nat → Int32} {rj : Nat → Nat → Int64} {rq : Nat → Nat → Option Nat} {x_1932 : Int32} {x_1933 : Int32} {x_1934 : Int32} {x_1935 : Int32} (hk_g_X7_known_L23 : ∀ (x_1638 : Int32) (x_1639 : Int32) (x_1640 : Int32) (x_1641 : Int32) (x_1642 : Int32), FRG Prod.snd w_X7_known (I, J, ri, rj, rq) (k_g_X7_known_L23 x_1638 x_1639 x_1640 x_1641 x_1642)) : FRG Prod.snd w_X7_known (I, J, ri, rj, rq) (g_X7_known_K138 x_1642 k_g_X7_known_L23 x_1932 x_1933 x_1934 x_1935) := by
  rw [g_X7_known_K138_e]
  refine fg_ap (fun x_1942 => ?_)
  exact hk_g_X7_known_L23 _ _ _ _ _
theorem g_X7_known_L23_f {a0 : Int32} {a1 : Int32} {a2 : Int32} {I : Nat → Int32} {J : Nat → Int64} {ri : Nat → Nat → Int32} {rj : Nat → Nat → Int64} {rq : Nat → Nat → Option Nat}  : ∀ (n_1740 : Nat) (x_1638 : Int32) (x_1639 : Int32) (x_1640 : Int32) (x_1641 : Int32) (x_1642 : Int32), FRG Prod.snd w_X7_known (I, J, ri, rj, rq) (g_X7_known_L23 a0 a1 a2 I J ri rj rq n_1740 x_1638 x_1639 x_1640 x_1641 x_1642) := by
  intro n_1740
  induction n_1740 with
  | zero => intros; exact fv_rt rfl
  | succ n_1740 ih =>
    intro x_1638 x_1639 x_1640 x_1641 x_1642
    rw [g_X7_known_L23_e]
    refine fg_ap (fun y_1748 => ?_)
    refine fg_if ?_ ?_
    · refine fg_ap (fun x_1752 => ?_)
      refine fg_if ?_ ?_
      · refine fg_if ?_ ?_
        · refine fg_ap (fun x_1842 => ?_)
          refine fg_if ?_ ?_
          · refine fg_ap (fun x_1892 => ?_)
            refine fg_if ?_ ?_
            · exact g_X7_known_K187_f 
            · exact g_X7_known_K179_f 
          · exact g_X7_known_K179_f 
        · exact g_X7_known_K187_f 
      · exact fv_rt rfl
    · refine fg_ap (fun x_1914 => ?_)
      refine fg_if ?_ ?_
      · refine fg_ap (fun x_1946 => ?_)
        refine fg_if ?_ ?_
        · exact g_X7_known_K138_f ih
        · refine fg_ap (fun x_1953 => ?_)
          refine fg_ap (fun x_1954 => ?_)
          refine fg_ap (fun x_1957 => ?_)
          refine fg_if ?_ ?_
          · exact g_X7_known_K138_f ih
          · refine fg_ap (fun x_1959 => ?_)
            refine fg_if ?_ ?_
            · exact g_X7_known_K138_f ih
            · refine fg_ap (fun x_1961 => ?_)
              refine fg_if ?_ ?_
              · exact g_X7_known_K138_f ih
              · exact g_X7_known_K138_f ih
      · exact g_X7_known_K138_f ih
theorem g_X7_known_f {a0 : Int32} {a1 : Int32} {a2 : Int32} {I : Nat → Int32} {J : Nat → Int64} {ri : Nat → Nat → Int32} {rj : Nat → Nat → Int64} {rq : Nat → Nat → Option Nat}  : FRG Prod.snd w_X7_known (I, J, ri, rj, rq) (g_X7_known  a0 a1 a2 I J ri rj rq) := by
  rw [g_X7_known_e]
  exact g_X7_known_L23_f  _ _ _ _ _ _

def w_X10_nature : wS := ([66], [67], [73, 74, 76, 77, 81], [68], [])
theorem g_X10_nature_K77_f {I : Nat → Int32} {J : Nat → Int64} {ri : Nat → Nat → Int32} {rj : Nat → Nat → Int64} {rq : Nat → Nat → Option Nat} {x_7 : Int32} {x_10 : Int32} {x_27 : Int32}  : FRG id w_X10_nature (I, J, ri, rj, rq) (g_X10_nature_K77 I J ri rj rq x_7 x_10 x_27) := by
  rw [g_X10_nature_K77_e]
  refine fg_bV g_X2_growReef_f rfl (fun I_z1 J_z1 ri_76 rj_z1 rq_z1 h_1 => ?_)
  rw [fe_I h_1, fe_J h_1, fe_rj h_1, fe_rq h_1]
  refine fg_ap (fun x_83 => ?_)
  refine fg_bV g_X2_walk_f rfl (fun I_86 J_z2 ri_87 rj_z2 rq_z2 h_2 => ?_)
  rw [fe_J h_2, fe_rj h_2, fe_rq h_2]
  refine fg_ap (fun y_94 => ?_)
  refine fg_ap (fun x_96 => ?_)
  refine fg_ap (fun x_97 => ?_)
  refine fg_ap (fun x_99 => ?_)
  refine fg_ap (fun x_100 => ?_)
  refine fg_bV g_X2_tide_f rfl (fun I_z3 J_103 ri_104 rj_105 rq_z3 h_3 => ?_)
  rw [fe_I h_3, fe_rq h_3]
  refine fg_bV g_X2_giveUpBeds_f rfl (fun I_z4 J_z4 ri_113 rj_z4 rq_z4 h_4 => ?_)
  rw [fe_I h_4, fe_J h_4, fe_rj h_4, fe_rq h_4]
  exact fv_rt rfl
theorem g_X10_nature_f {a0 : Int32} {I : Nat → Int32} {J : Nat → Int64} {ri : Nat → Nat → Int32} {rj : Nat → Nat → Int64} {rq : Nat → Nat → Option Nat}  : FRG id w_X10_nature (I, J, ri, rj, rq) (g_X10_nature  a0 I J ri rj rq) := by
  rw [g_X10_nature_e]
  refine fg_ap (fun y_2 => ?_)
  refine fg_if ?_ ?_
  · refine fg_ap (fun x_7 => ?_)
    refine fg_bI g_X7_known_f rfl (fun x_10 I_z5 J_z5 ri_z5 rj_z5 rq_z5 h_5 => ?_)
    rw [fe_I h_5, fe_J h_5, fe_ri h_5, fe_rj h_5, fe_rq h_5]
    refine fg_ap (fun x_19 => ?_)
    refine fg_ap (fun y_20 => ?_)
    refine fg_if ?_ ?_
    · refine fg_ap (fun y_124 => ?_)
      refine fg_ap (fun x_125 => ?_)
      exact g_X10_nature_K77_f 
    · refine fg_ap (fun y_126 => ?_)
      exact g_X10_nature_K77_f 
  · exact fv_rt rfl




def w_X9_fillUp : wS := ([], [], [289, 290], [], [])
theorem g_X9_fillUp_K106_f {x_622 : Int32} {k_g_X9_fillUp_L3 : (Int32) → (Nat → Nat → Int32) → vM} {I : Nat → Int32} {J : Nat → Int64} {rj : Nat → Nat → Int64} {rq : Nat → Nat → Option Nat} {ri_728 : Nat → Nat → Int32} (hk_g_X9_fillUp_L3 : ∀ (x_622 : Int32) (ri_623 : Nat → Nat → Int32), FRG id w_X9_fillUp (I, J, ri_623, rj, rq) (k_g_X9_fillUp_L3 x_622 ri_623)) : FRG id w_X9_fillUp (I, J, ri_728, rj, rq) (g_X9_fillUp_K106 x_622 k_g_X9_fillUp_L3 ri_728) := by
  rw [g_X9_fillUp_K106_e]
  refine fg_ap (fun x_732 => ?_)
  exact hk_g_X9_fillUp_L3 _ _
theorem g_X9_fillUp_L3_f {a0 : Int32} {a1 : Int64} {a2 : Int32} {I : Nat → Int32} {J : Nat → Int64} {rj : Nat → Nat → Int64} {rq : Nat → Nat → Option Nat}  : ∀ (n_675 : Nat) (x_622 : Int32) (ri_623 : Nat → Nat → Int32), FRG id w_X9_fillUp (I, J, ri_623, rj, rq) (g_X9_fillUp_L3 a0 a1 a2 I J rj rq n_675 x_622 ri_623) := by
  intro n_675
  induction n_675 with
  | zero => intros; exact fv_rt rfl
  | succ n_675 ih =>
    intro x_622 ri_623
    rw [g_X9_fillUp_L3_e]
    refine fg_if ?_ ?_
    · exact fv_rt rfl
    · refine fg_bI g_X9_isAt_f rfl (fun x_685 I_z1 J_z1 ri_z1 rj_z1 rq_z1 h_1 => ?_)
      rw [fe_I h_1, fe_J h_1, fe_ri h_1, fe_rj h_1, fe_rq h_1]
      refine fg_if ?_ ?_
      · exact g_X9_fillUp_K106_f ih
      · refine fg_ap (fun x_738 => ?_)
        refine fg_if ?_ ?_
        · refine fg_ap (fun x_751 => ?_)
          refine fg_ap (fun x_752 => ?_)
          refine fg_ap (fun x_753 => ?_)
          refine fg_ri rfl (fun r_755 => ?_)
          exact g_X9_fillUp_K106_f ih
        · refine fg_ap (fun x_758 => ?_)
          refine fg_ap (fun x_760 => ?_)
          refine fg_ap (fun x_761 => ?_)
          refine fg_ap (fun x_762 => ?_)
          refine fg_ap (fun x_763 => ?_)
          refine fg_ri rfl (fun r_765 => ?_)
          refine fg_ap (fun x_767 => ?_)
          refine fg_ap (fun x_768 => ?_)
          refine fg_ap (fun x_769 => ?_)
          refine fg_ri rfl (fun r_771 => ?_)
          exact g_X9_fillUp_K106_f ih
theorem g_X9_fillUp_f {a0 : Int32} {a1 : Int64} {a2 : Int32} {I : Nat → Int32} {J : Nat → Int64} {ri : Nat → Nat → Int32} {rj : Nat → Nat → Int64} {rq : Nat → Nat → Option Nat}  : FRG id w_X9_fillUp (I, J, ri, rj, rq) (g_X9_fillUp  a0 a1 a2 I J ri rj rq) := by
  rw [g_X9_fillUp_e]
  exact g_X9_fillUp_L3_f  _ _ _








def w_X8_isAhead : wS := ([], [], [], [], [])
theorem g_X8_isAhead_K12_f {I : Nat → Int32} {J : Nat → Int64} {ri : Nat → Nat → Int32} {rj : Nat → Nat → Int64} {rq : Nat → Nat → Option Nat}  : FRG Prod.snd w_X8_isAhead (I, J, ri, rj, rq) (g_X8_isAhead_K12 I J ri rj rq ) := by
  rw [g_X8_isAhead_K12_e]
  exact fv_rt rfl
theorem g_X8_isAhead_L22_f {this : Nat} {a0 : Int32} {a2 : Int32} {a3 : Int32} {I : Nat → Int32} {J : Nat → Int64} {ri : Nat → Nat → Int32} {rj : Nat → Nat → Int64} {rq : Nat → Nat → Option Nat} {tR : Nat → Nat → Nat → Int32}  : ∀ (n_440 : Nat) (x_393 : Int32), FRG Prod.snd w_X8_isAhead (I, J, ri, rj, rq) (g_X8_isAhead_L22 this a0 a2 a3 I J ri rj rq tR n_440 x_393) := by
  intro n_440
  induction n_440 with
  | zero => intros; exact fv_rt rfl
  | succ n_440 ih =>
    intro x_393
    rw [g_X8_isAhead_L22_e]
    refine fg_ap (fun x_445 => ?_)
    refine fg_ap (fun x_447 => ?_)
    refine fg_if ?_ ?_
    · exact fv_rt rfl
    · refine fg_ap (fun x_455 => ?_)
      refine fg_ap (fun x_456 => ?_)
      refine fg_bI g_X0_valueOf_f rfl (fun x_457 I_z1 J_z1 ri_z1 rj_z1 rq_z1 h_1 => ?_)
      rw [fe_I h_1, fe_J h_1, fe_ri h_1, fe_rj h_1, fe_rq h_1]
      refine fg_bI g_X0_valueOf_f rfl (fun x_464 I_z2 J_z2 ri_z2 rj_z2 rq_z2 h_2 => ?_)
      rw [fe_I h_2, fe_J h_2, fe_ri h_2, fe_rj h_2, fe_rq h_2]
      refine fg_ap (fun x_471 => ?_)
      refine fg_if ?_ ?_
      · refine fg_ap (fun x_481 => ?_)
        exact ih _
      · refine fg_if ?_ ?_
        · refine fg_if ?_ ?_
          · exact fv_rt rfl
          · exact fv_rt rfl
        · refine fg_if ?_ ?_
          · exact fv_rt rfl
          · exact fv_rt rfl
theorem g_X8_isAhead_f {tI : Nat → Nat → Int32} {tR : Nat → Nat → Nat → Int32} {this : Nat} {a0 : Int32} {a2 : Int32} {a3 : Int32} {I : Nat → Int32} {J : Nat → Int64} {ri : Nat → Nat → Int32} {rj : Nat → Nat → Int64} {rq : Nat → Nat → Option Nat}  : FRG Prod.snd w_X8_isAhead (I, J, ri, rj, rq) (g_X8_isAhead  tI tR this a0 a2 a3 I J ri rj rq) := by
  rw [g_X8_isAhead_e]
  refine fg_if ?_ ?_
  · exact g_X8_isAhead_K12_f 
  · refine fg_ap (fun y_248 => ?_)
    refine fg_if ?_ ?_
    · refine fg_ap (fun x_255 => ?_)
      exact g_X8_isAhead_L22_f  _ _
    · exact g_X8_isAhead_K12_f 

def w_X2_countBeds_332 : wS := ([], [], [332], [], [])
theorem g_X2_countBeds_332_L34_f {a1 : Int32} {I : Nat → Int32} {J : Nat → Int64} {rj : Nat → Nat → Int64} {rq : Nat → Nat → Option Nat}  : ∀ (n_1178 : Nat) (x_1157 : Int32) (ri_1158 : Nat → Nat → Int32), FRG id w_X2_countBeds_332 (I, J, ri_1158, rj, rq) (g_X2_countBeds_332_L34 a1 I J rj rq n_1178 x_1157 ri_1158) := by
  intro n_1178
  induction n_1178 with
  | zero => intros; exact fv_rt rfl
  | succ n_1178 ih =>
    intro x_1157 ri_1158
    rw [g_X2_countBeds_332_L34_e]
    refine fg_ap (fun y_1184 => ?_)
    refine fg_if ?_ ?_
    · exact fv_rt rfl
    · refine fg_ap (fun x_1191 => ?_)
      refine fg_ap (fun x_1193 => ?_)
      refine fg_ap (fun x_1195 => ?_)
      refine fg_ap (fun x_1197 => ?_)
      refine fg_ap (fun x_1198 => ?_)
      refine fg_ri rfl (fun r_1199 => ?_)
      refine fg_ap (fun x_1200 => ?_)
      exact ih _ _
theorem g_X2_countBeds_332_L15_f {a1 : Int32} {I : Nat → Int32} {J : Nat → Int64} {rj : Nat → Nat → Int64} {rq : Nat → Nat → Option Nat}  : ∀ (n_911 : Nat) (x_622 : Int32) (ri_623 : Nat → Nat → Int32), FRG id w_X2_countBeds_332 (I, J, ri_623, rj, rq) (g_X2_countBeds_332_L15 a1 I J rj rq n_911 x_622 ri_623) := by
  intro n_911
  induction n_911 with
  | zero => intros; exact fv_rt rfl
  | succ n_911 ih =>
    intro x_622 ri_623
    rw [g_X2_countBeds_332_L15_e]
    refine fg_if ?_ ?_
    · exact g_X2_countBeds_332_L34_f  _ _ _
    · refine fg_ap (fun x_1203 => ?_)
      refine fg_ri rfl (fun r_1205 => ?_)
      refine fg_ap (fun x_1206 => ?_)
      exact ih _ _
theorem g_X2_countBeds_332_f {a1 : Int32} {I : Nat → Int32} {J : Nat → Int64} {ri : Nat → Nat → Int32} {rj : Nat → Nat → Int64} {rq : Nat → Nat → Option Nat}  : FRG id w_X2_countBeds_332 (I, J, ri, rj, rq) (g_X2_countBeds_332  a1 I J ri rj rq) := by
  rw [g_X2_countBeds_332_e]
  refine fg_ap (fun x_2 => ?_)
  exact g_X2_countBeds_332_L15_f  _ _ _

def w_X0_sleep_332 : wS := ([], [], [7, 12], [], [])
theorem g_X0_sleep_332_K96_f {x_2181 : Int32} {k_g_X0_sleep_332_L30 : (Int32) → (Int32) → (Nat → Nat → Int32) → Int32 × vM} {I : Nat → Int32} {J : Nat → Int64} {rj : Nat → Nat → Int64} {rq : Nat → Nat → Option Nat} {x_2262 : Int32} {ri_2263 : Nat → Nat → Int32} (hk_g_X0_sleep_332_L30 : ∀ (x_2180 : Int32) (x_2181 : Int32) (ri_2182 : Nat → Nat → Int32), FRG Prod.snd w_X0_sleep_332 (I, J, ri_2182, rj, rq) (k_g_X0_sleep_332_L30 x_2180 x_2181 ri_2182)) : FRG Prod.snd w_X0_sleep_332 (I, J, ri_2263, rj, rq) (g_X0_sleep_332_K96 x_2181 k_g_X0_sleep_332_L30 x_2262 ri_2263) := by
  rw [g_X0_sleep_332_K96_e]
  refine fg_ap (fun x_2267 => ?_)
  exact hk_g_X0_sleep_332_L30 _ _ _
theorem g_X0_sleep_332_L30_f {I : Nat → Int32} {J : Nat → Int64} {rj : Nat → Nat → Int64} {rq : Nat → Nat → Option Nat}  : ∀ (n_2222 : Nat) (x_2180 : Int32) (x_2181 : Int32) (ri_2182 : Nat → Nat → Int32), FRG Prod.snd w_X0_sleep_332 (I, J, ri_2182, rj, rq) (g_X0_sleep_332_L30 I J rj rq n_2222 x_2180 x_2181 ri_2182) := by
  intro n_2222
  induction n_2222 with
  | zero => intros; exact fv_rt rfl
  | succ n_2222 ih =>
    intro x_2180 x_2181 ri_2182
    rw [g_X0_sleep_332_L30_e]
    refine fg_ap (fun y_2228 => ?_)
    refine fg_if ?_ ?_
    · exact fv_rt rfl
    · refine fg_bI g_X0_isOnRing_f rfl (fun x_2235 I_z1 J_z1 ri_z1 rj_z1 rq_z1 h_1 => ?_)
      rw [fe_I h_1, fe_J h_1, fe_ri h_1, fe_rj h_1, fe_rq h_1]
      refine fg_if ?_ ?_
      · exact g_X0_sleep_332_K96_f ih
      · refine fg_ap (fun x_2278 => ?_)
        refine fg_ap (fun x_2280 => ?_)
        refine fg_if ?_ ?_
        · refine fg_ap (fun x_2286 => ?_)
          refine fg_ap (fun x_2287 => ?_)
          refine fg_ri rfl (fun r_2288 => ?_)
          refine fg_ap (fun x_2289 => ?_)
          exact g_X0_sleep_332_K96_f ih
        · refine fg_ap (fun x_2291 => ?_)
          refine fg_ri rfl (fun r_2293 => ?_)
          exact g_X0_sleep_332_K96_f ih
theorem g_X0_sleep_332_f {a1 : Int32} {I : Nat → Int32} {J : Nat → Int64} {ri : Nat → Nat → Int32} {rj : Nat → Nat → Int64} {rq : Nat → Nat → Option Nat}  : FRG Prod.snd w_X0_sleep_332 (I, J, ri, rj, rq) (g_X0_sleep_332  a1 I J ri rj rq) := by
  rw [g_X0_sleep_332_e]
  refine fg_ap (fun x_1132 => ?_)
  refine fg_ri rfl (fun r_1136 => ?_)
  exact g_X0_sleep_332_L30_f  _ _ _ _

def w_X10_reckon : wS := ([321, 323, 324], [], [82, 83], [], [])
theorem g_X10_reckon_K43_f {I : Nat → Int32} {J : Nat → Int64} {ri : Nat → Nat → Int32} {rj : Nat → Nat → Int64} {rq : Nat → Nat → Option Nat} {tI : Nat → Nat → Int32} {tR : Nat → Nat → Nat → Int32} {x_21 : Int32}  : FRG id w_X10_reckon (I, J, ri, rj, rq) (g_X10_reckon_K43 I J ri rj rq tI tR x_21) := by
  rw [g_X10_reckon_K43_e]
  refine fg_ap (fun x_87 => ?_)
  refine fg_ap (fun y_90 => ?_)
  refine fg_bI g_X2_countArea_f rfl (fun x_91 I_z1 J_z1 ri_93 rj_z1 rq_z1 h_1 => ?_)
  rw [fe_I h_1, fe_J h_1, fe_rj h_1, fe_rq h_1]
  refine fg_I rfl (fun I_99 => ?_)
  refine fg_ap (fun y_100 => ?_)
  refine fg_bI g_X0_sendings_f rfl (fun x_102 I_z2 J_z2 ri_z2 rj_z2 rq_z2 h_2 => ?_)
  rw [fe_I h_2, fe_J h_2, fe_ri h_2, fe_rj h_2, fe_rq h_2]
  refine fg_ap (fun y_110 => ?_)
  refine fg_bI g_X3_leaveIn_f rfl (fun x_111 I_z3 J_z3 ri_z3 rj_z3 rq_z3 h_3 => ?_)
  rw [fe_I h_3, fe_J h_3, fe_ri h_3, fe_rj h_3, fe_rq h_3]
  refine fg_ap (fun y_118 => ?_)
  refine fg_ap (fun x_119 => ?_)
  refine fg_ap (fun x_120 => ?_)
  refine fg_ap (fun x_121 => ?_)
  refine fg_ap (fun y_122 => ?_)
  refine fg_bI g_X2_countWalls_f rfl (fun x_123 I_z4 J_z4 ri_z4 rj_z4 rq_z4 h_4 => ?_)
  rw [fe_I h_4, fe_J h_4, fe_ri h_4, fe_rj h_4, fe_rq h_4]
  refine fg_ap (fun x_130 => ?_)
  refine fg_ap (fun x_131 => ?_)
  refine fg_ap (fun x_132 => ?_)
  refine fg_I rfl (fun I_133 => ?_)
  refine fg_ap (fun y_134 => ?_)
  refine fg_if ?_ ?_
  · exact fv_rt rfl
  · refine fg_ap (fun y_140 => ?_)
    refine fg_if ?_ ?_
    · refine fg_ap (fun y_145 => ?_)
      refine fg_I rfl (fun I_146 => ?_)
      exact fv_rt rfl
    · exact fv_rt rfl
theorem g_X10_reckon_K39_f {I : Nat → Int32} {J : Nat → Int64} {ri : Nat → Nat → Int32} {rj : Nat → Nat → Int64} {rq : Nat → Nat → Option Nat} {y_2 : Int32} {tI : Nat → Nat → Int32} {tR : Nat → Nat → Nat → Int32}  : FRG id w_X10_reckon (I, J, ri, rj, rq) (g_X10_reckon_K39 I J ri rj rq y_2 tI tR ) := by
  rw [g_X10_reckon_K39_e]
  exact g_X10_reckon_K43_f 
theorem g_X10_reckon_f {tI : Nat → Nat → Int32} {tR : Nat → Nat → Nat → Int32} {I : Nat → Int32} {J : Nat → Int64} {ri : Nat → Nat → Int32} {rj : Nat → Nat → Int64} {rq : Nat → Nat → Option Nat}  : FRG id w_X10_reckon (I, J, ri, rj, rq) (g_X10_reckon  tI tR I J ri rj rq) := by
  rw [g_X10_reckon_e]
  refine fg_ap (fun y_2 => ?_)
  refine fg_if ?_ ?_
  · refine fg_bI g_X3_fixIn_f rfl (fun x_8 I_z5 J_z5 ri_z5 rj_z5 rq_z5 h_5 => ?_)
    rw [fe_I h_5, fe_J h_5, fe_ri h_5, fe_rj h_5, fe_rq h_5]
    refine fg_if ?_ ?_
    · exact g_X10_reckon_K39_f 
    · refine fg_if ?_ ?_
      · exact g_X10_reckon_K39_f 
      · exact g_X10_reckon_K43_f 
  · exact fv_rt rfl

def w_X3_line_331 : wS := ([], [], [331], [], [])
theorem g_X3_line_331_K121_f {x_23081 : Int32} {x_22744 : Int32} {k_g_X3_line_331_L60 : (Int32) → (Nat → Nat → Int32) → vM} {x_22954 : Int32} {ri_23082 : Nat → Nat → Int32} {I : Nat → Int32} {J : Nat → Int64} {rj : Nat → Nat → Int64} {rq : Nat → Nat → Option Nat} (hk_g_X3_line_331_L60 : ∀ (x_22744 : Int32) (ri_22745 : Nat → Nat → Int32), FRG id w_X3_line_331 (I, J, ri_22745, rj, rq) (k_g_X3_line_331_L60 x_22744 ri_22745)) : FRG id w_X3_line_331 (I, J, ri_23082, rj, rq) (g_X3_line_331_K121 x_23081 x_22744 k_g_X3_line_331_L60 x_22954 ri_23082 ) := by
  rw [g_X3_line_331_K121_e]
  refine fg_ri rfl (fun r_23151 => ?_)
  refine fg_ap (fun x_23152 => ?_)
  exact hk_g_X3_line_331_L60 _ _
theorem g_X3_line_331_L78_f {I : Nat → Int32} {J : Nat → Int64} {rj : Nat → Nat → Int64} {rq : Nat → Nat → Option Nat} {tI : Nat → Nat → Int32} {tR : Nat → Nat → Nat → Int32} {w_x_20549 : Nat} {x_20556 : Int32} {x_22744 : Int32} {k_g_X3_line_331_L60 : (Int32) → (Nat → Nat → Int32) → vM} {x_22954 : Int32} (hk_g_X3_line_331_L60 : ∀ (x_22744 : Int32) (ri_22745 : Nat → Nat → Int32), FRG id w_X3_line_331 (I, J, ri_22745, rj, rq) (k_g_X3_line_331_L60 x_22744 ri_22745)) : ∀ (n_23115 : Nat) (x_23081 : Int32) (ri_23082 : Nat → Nat → Int32), FRG id w_X3_line_331 (I, J, ri_23082, rj, rq) (g_X3_line_331_L78 I J rj rq tI tR w_x_20549 x_20556 x_22744 k_g_X3_line_331_L60 x_22954 n_23115 x_23081 ri_23082) := by
  intro n_23115
  induction n_23115 with
  | zero => intros; exact fv_rt rfl
  | succ n_23115 ih =>
    intro x_23081 ri_23082
    rw [g_X3_line_331_L78_e]
    refine fg_if ?_ ?_
    · exact g_X3_line_331_K121_f hk_g_X3_line_331_L60
    · refine fg_ap (fun x_23159 => ?_)
      refine fg_ap (fun x_23161 => ?_)
      refine fg_bI g_X8_isAhead_f rfl (fun x_23163 I_z1 J_z1 ri_z1 rj_z1 rq_z1 h_1 => ?_)
      rw [fe_I h_1, fe_J h_1, fe_ri h_1, fe_rj h_1, fe_rq h_1]
      refine fg_if ?_ ?_
      · exact g_X3_line_331_K121_f hk_g_X3_line_331_L60
      · refine fg_ap (fun x_23180 => ?_)
        refine fg_ap (fun x_23182 => ?_)
        refine fg_ri rfl (fun r_23184 => ?_)
        refine fg_ap (fun x_23185 => ?_)
        exact ih _ _
theorem g_X3_line_331_L60_f {I : Nat → Int32} {J : Nat → Int64} {rj : Nat → Nat → Int64} {rq : Nat → Nat → Option Nat} {x_3 : Int32} {tI : Nat → Nat → Int32} {tR : Nat → Nat → Nat → Int32} {w_x_20549 : Nat} {x_20556 : Int32}  : ∀ (n_22944 : Nat) (x_22744 : Int32) (ri_22745 : Nat → Nat → Int32), FRG id w_X3_line_331 (I, J, ri_22745, rj, rq) (g_X3_line_331_L60 I J rj rq x_3 tI tR w_x_20549 x_20556 n_22944 x_22744 ri_22745) := by
  intro n_22944
  induction n_22944 with
  | zero => intros; exact fv_rt rfl
  | succ n_22944 ih =>
    intro x_22744 ri_22745
    rw [g_X3_line_331_L60_e]
    refine fg_if ?_ ?_
    · exact fv_rt rfl
    · refine fg_ap (fun x_22954 => ?_)
      exact g_X3_line_331_L78_f ih _ _ _
theorem g_X3_line_331_L15_f {a0 : Int32} {a1 : Int32} {I : Nat → Int32} {J : Nat → Int64} {rj : Nat → Nat → Int64} {rq : Nat → Nat → Option Nat} {x_3 : Int32} {tI : Nat → Nat → Int32} {tR : Nat → Nat → Nat → Int32}  : ∀ (n_20541 : Nat) (x_17938 : Int32) (ri_17939 : Nat → Nat → Int32), FRG id w_X3_line_331 (I, J, ri_17939, rj, rq) (g_X3_line_331_L15 a0 a1 I J rj rq x_3 tI tR n_20541 x_17938 ri_17939) := by
  intro n_20541
  induction n_20541 with
  | zero => intros; exact fv_rt rfl
  | succ n_20541 ih =>
    intro x_17938 ri_17939
    rw [g_X3_line_331_L15_e]
    refine fg_if ?_ ?_
    · refine fg_bI g_X3_textFor_f rfl (fun x_20549 I_z2 J_z2 ri_z2 rj_z2 rq_z2 h_2 => ?_)
      rw [fe_I h_2, fe_J h_2, fe_ri h_2, fe_rj h_2, fe_rq h_2]
      refine fg_op ?_ (fun w_x_20549 => ?_)
      · exact fv_rt rfl
      · refine fg_bI g_X8_firstOf_f rfl (fun x_20556 I_z3 J_z3 ri_z3 rj_z3 rq_z3 h_3 => ?_)
        rw [fe_I h_3, fe_J h_3, fe_ri h_3, fe_rj h_3, fe_rq h_3]
        exact g_X3_line_331_L60_f  _ _ _
    · refine fg_ri rfl (fun r_23189 => ?_)
      refine fg_ap (fun x_23190 => ?_)
      exact ih _ _
theorem g_X3_line_331_f {tI : Nat → Nat → Int32} {tR : Nat → Nat → Nat → Int32} {a0 : Int32} {a1 : Int32} {I : Nat → Int32} {J : Nat → Int64} {ri : Nat → Nat → Int32} {rj : Nat → Nat → Int64} {rq : Nat → Nat → Option Nat}  : FRG id w_X3_line_331 (I, J, ri, rj, rq) (g_X3_line_331  tI tR a0 a1 I J ri rj rq) := by
  rw [g_X3_line_331_e]
  refine fg_ap (fun y_2 => ?_)
  refine fg_ap (fun x_3 => ?_)
  exact g_X3_line_331_L15_f  _ _ _

def w_X0_board_331 : wS := ([], [], [5, 8, 13, 14, 15], [], [])
theorem g_X0_board_331_K202_f {x_9742 : Int32} {k_g_X0_board_331_L43 : (Int32) → (Int32) → (Nat → Nat → Int32) → vM} {I : Nat → Int32} {J : Nat → Int64} {rj : Nat → Nat → Int64} {rq : Nat → Nat → Option Nat} {x_9921 : Int32} {ri_9922 : Nat → Nat → Int32} (hk_g_X0_board_331_L43 : ∀ (x_9741 : Int32) (x_9742 : Int32) (ri_9743 : Nat → Nat → Int32), FRG id w_X0_board_331 (I, J, ri_9743, rj, rq) (k_g_X0_board_331_L43 x_9741 x_9742 ri_9743)) : FRG id w_X0_board_331 (I, J, ri_9922, rj, rq) (g_X0_board_331_K202 x_9742 k_g_X0_board_331_L43 x_9921 ri_9922) := by
  rw [g_X0_board_331_K202_e]
  refine fg_ap (fun x_9926 => ?_)
  exact hk_g_X0_board_331_L43 _ _ _
theorem g_X0_board_331_K165_f {a4 : Int32} {x_9742 : Int32} {k_g_X0_board_331_L43 : (Int32) → (Int32) → (Nat → Nat → Int32) → vM} {x_9846 : Int32} {x_9949 : Int32} {I : Nat → Int32} {J : Nat → Int64} {rj : Nat → Nat → Int64} {rq : Nat → Nat → Option Nat} {x_9986 : Int32} {ri_9987 : Nat → Nat → Int32} (hk_g_X0_board_331_L43 : ∀ (x_9741 : Int32) (x_9742 : Int32) (ri_9743 : Nat → Nat → Int32), FRG id w_X0_board_331 (I, J, ri_9743, rj, rq) (k_g_X0_board_331_L43 x_9741 x_9742 ri_9743)) : FRG id w_X0_board_331 (I, J, ri_9987, rj, rq) (g_X0_board_331_K165 a4 x_9742 k_g_X0_board_331_L43 x_9846 x_9949 x_9986 ri_9987) := by
  rw [g_X0_board_331_K165_e]
  refine fg_ap (fun x_9998 => ?_)
  refine fg_if ?_ ?_
  · exact g_X0_board_331_K202_f hk_g_X0_board_331_L43
  · refine fg_ap (fun x_10003 => ?_)
    refine fg_ri rfl (fun r_10005 => ?_)
    refine fg_ri rfl (fun r_10007 => ?_)
    exact g_X0_board_331_K202_f hk_g_X0_board_331_L43
theorem g_X0_board_331_K162_f {a4 : Int32} {x_9741 : Int32} {x_9742 : Int32} {k_g_X0_board_331_L43 : (Int32) → (Int32) → (Nat → Nat → Int32) → vM} {x_9846 : Int32} {x_9949 : Int32} {r_10040 : Nat → Nat → Int32} {I : Nat → Int32} {J : Nat → Int64} {rj : Nat → Nat → Int64} {rq : Nat → Nat → Option Nat} {x_10046 : Int32} (hk_g_X0_board_331_L43 : ∀ (x_9741 : Int32) (x_9742 : Int32) (ri_9743 : Nat → Nat → Int32), FRG id w_X0_board_331 (I, J, ri_9743, rj, rq) (k_g_X0_board_331_L43 x_9741 x_9742 ri_9743)) : FRG id w_X0_board_331 (I, J, r_10040, rj, rq) (g_X0_board_331_K162 a4 x_9741 x_9742 k_g_X0_board_331_L43 x_9846 x_9949 r_10040 x_10046) := by
  rw [g_X0_board_331_K162_e]
  refine fg_ap (fun x_10049 => ?_)
  exact g_X0_board_331_K165_f hk_g_X0_board_331_L43
theorem g_X0_board_331_K137_f {a4 : Int32} {x_9741 : Int32} {x_9742 : Int32} {k_g_X0_board_331_L43 : (Int32) → (Int32) → (Nat → Nat → Int32) → vM} {x_9846 : Int32} {x_9949 : Int32} {I : Nat → Int32} {J : Nat → Int64} {rj : Nat → Nat → Int64} {rq : Nat → Nat → Option Nat} {x_10026 : Int32} {ri_10027 : Nat → Nat → Int32} (hk_g_X0_board_331_L43 : ∀ (x_9741 : Int32) (x_9742 : Int32) (ri_9743 : Nat → Nat → Int32), FRG id w_X0_board_331 (I, J, ri_9743, rj, rq) (k_g_X0_board_331_L43 x_9741 x_9742 ri_9743)) : FRG id w_X0_board_331 (I, J, ri_10027, rj, rq) (g_X0_board_331_K137 a4 x_9741 x_9742 k_g_X0_board_331_L43 x_9846 x_9949 x_10026 ri_10027) := by
  rw [g_X0_board_331_K137_e]
  refine fg_ri rfl (fun r_10040 => ?_)
  refine fg_ap (fun x_10041 => ?_)
  refine fg_if ?_ ?_
  · exact g_X0_board_331_K162_f hk_g_X0_board_331_L43
  · refine fg_ap (fun x_10052 => ?_)
    exact g_X0_board_331_K162_f hk_g_X0_board_331_L43
theorem g_X0_board_331_L43_f {a0 : Int64} {a2 : Int32} {a4 : Int32} {I : Nat → Int32} {J : Nat → Int64} {rj : Nat → Nat → Int64} {rq : Nat → Nat → Option Nat}  : ∀ (n_9831 : Nat) (x_9741 : Int32) (x_9742 : Int32) (ri_9743 : Nat → Nat → Int32), FRG id w_X0_board_331 (I, J, ri_9743, rj, rq) (g_X0_board_331_L43 a0 a2 a4 I J rj rq n_9831 x_9741 x_9742 ri_9743) := by
  intro n_9831
  induction n_9831 with
  | zero => intros; exact fv_rt rfl
  | succ n_9831 ih =>
    intro x_9741 x_9742 ri_9743
    rw [g_X0_board_331_L43_e]
    refine fg_if ?_ ?_
    · exact fv_rt rfl
    · refine fg_if ?_ ?_
      · exact fv_rt rfl
      · refine fg_ap (fun x_9846 => ?_)
        refine fg_ap (fun x_9848 => ?_)
        refine fg_if ?_ ?_
        · exact g_X0_board_331_K202_f ih
        · refine fg_bI g_X0_isOnRing_f rfl (fun x_9934 I_z1 J_z1 ri_z1 rj_z1 rq_z1 h_1 => ?_)
          rw [fe_I h_1, fe_J h_1, fe_ri h_1, fe_rj h_1, fe_rq h_1]
          refine fg_if ?_ ?_
          · exact g_X0_board_331_K202_f ih
          · refine fg_bI g_X0_groupOf_f rfl (fun x_9949 I_z2 J_z2 ri_z2 rj_z2 rq_z2 h_2 => ?_)
            rw [fe_I h_2, fe_J h_2, fe_ri h_2, fe_rj h_2, fe_rq h_2]
            refine fg_ap (fun x_9957 => ?_)
            refine fg_if ?_ ?_
            · refine fg_ap (fun x_10014 => ?_)
              refine fg_if ?_ ?_
              · exact g_X0_board_331_K137_f ih
              · refine fg_bI g_X0_takeLot_f rfl (fun x_10059 I_z3 J_z3 ri_10061 rj_z3 rq_z3 h_3 => ?_)
                rw [fe_I h_3, fe_J h_3, fe_rj h_3, fe_rq h_3]
                exact g_X0_board_331_K137_f ih
            · exact g_X0_board_331_K165_f ih
theorem g_X0_board_331_L8_f {a0 : Int64} {a2 : Int32} {a3 : Int32} {a4 : Int32} {I : Nat → Int32} {J : Nat → Int64} {rj : Nat → Nat → Int64} {rq : Nat → Nat → Option Nat}  : ∀ (n_8687 : Nat) (x_7446 : Int32) (ri_7447 : Nat → Nat → Int32), FRG id w_X0_board_331 (I, J, ri_7447, rj, rq) (g_X0_board_331_L8 a0 a2 a3 a4 I J rj rq n_8687 x_7446 ri_7447) := by
  intro n_8687
  induction n_8687 with
  | zero => intros; exact fv_rt rfl
  | succ n_8687 ih =>
    intro x_7446 ri_7447
    rw [g_X0_board_331_L8_e]
    refine fg_ap (fun y_8693 => ?_)
    refine fg_if ?_ ?_
    · exact g_X0_board_331_L43_f  _ _ _ _
    · refine fg_bI g_X0_freeBeds_f rfl (fun x_10072 I_z4 J_z4 ri_z4 rj_z4 rq_z4 h_4 => ?_)
      rw [fe_I h_4, fe_J h_4, fe_ri h_4, fe_rj h_4, fe_rq h_4]
      refine fg_ri rfl (fun r_10079 => ?_)
      refine fg_ap (fun x_10080 => ?_)
      exact ih _ _
theorem g_X0_board_331_f {a0 : Int64} {a2 : Int32} {a3 : Int32} {a4 : Int32} {I : Nat → Int32} {J : Nat → Int64} {ri : Nat → Nat → Int32} {rj : Nat → Nat → Int64} {rq : Nat → Nat → Option Nat}  : FRG id w_X0_board_331 (I, J, ri, rj, rq) (g_X0_board_331  a0 a2 a3 a4 I J ri rj rq) := by
  rw [g_X0_board_331_e]
  refine fg_bV g_X0_countGroups_f rfl (fun I_z5 J_z5 ri_3 rj_z5 rq_z5 h_5 => ?_)
  rw [fe_I h_5, fe_J h_5, fe_rj h_5, fe_rq h_5]
  exact g_X0_board_331_L8_f  _ _ _

def w_X10_goBy : wS := ([66, 320, 321, 323, 324], [67], [5, 6, 7, 8, 12, 13, 14, 15, 73, 74, 76, 77, 81, 82, 83, 102, 103, 289, 290, 331, 332], [68], [])
theorem g_X10_goBy_K174_f {rq : Nat → Nat → Option Nat} {J_10 : Nat → Int64} {rj_12 : Nat → Nat → Int64} {I_66 : Nat → Int32} {ri_114 : Nat → Nat → Int32}  : FRG id w_X10_goBy (I_66, J_10, ri_114, rj_12, rq) (g_X10_goBy_K174 rq J_10 rj_12 I_66 ri_114) := by
  rw [g_X10_goBy_K174_e]
  refine fg_ap (fun y_122 => ?_)
  refine fg_ap (fun x_123 => ?_)
  refine fg_I rfl (fun I_125 => ?_)
  exact fv_rt rfl
theorem g_X10_goBy_f {tI : Nat → Nat → Int32} {tR : Nat → Nat → Nat → Int32} {a0 : Int32} {I : Nat → Int32} {J : Nat → Int64} {ri : Nat → Nat → Int32} {rj : Nat → Nat → Int64} {rq : Nat → Nat → Option Nat}  : FRG id w_X10_goBy (I, J, ri, rj, rq) (g_X10_goBy  tI tR a0 I J ri rj rq) := by
  rw [g_X10_goBy_e]
  refine fg_ap (fun y_2 => ?_)
  refine fg_if ?_ ?_
  · refine fg_bV g_X10_nature_f rfl (fun I_9 J_10 ri_11 rj_12 rq_z1 h_1 => ?_)
    rw [fe_rq h_1]
    refine fg_ap (fun y_21 => ?_)
    refine fg_ap (fun y_22 => ?_)
    refine fg_ap (fun y_26 => ?_)
    refine fg_ap (fun x_27 => ?_)
    refine fg_ap (fun x_29 => ?_)
    refine fg_bV g_X9_fillUp_f rfl (fun I_z2 J_z2 ri_32 rj_z2 rq_z2 h_2 => ?_)
    rw [fe_I h_2, fe_J h_2, fe_rj h_2, fe_rq h_2]
    refine fg_bV g_X2_countBeds_332_f rfl (fun I_z3 J_z3 ri_41 rj_z3 rq_z3 h_3 => ?_)
    rw [fe_I h_3, fe_J h_3, fe_rj h_3, fe_rq h_3]
    refine fg_bI g_X0_drink_f rfl (fun x_48 I_z4 J_z4 ri_50 rj_z4 rq_z4 h_4 => ?_)
    rw [fe_I h_4, fe_J h_4, fe_rj h_4, fe_rq h_4]
    refine fg_bI g_X0_sleep_332_f rfl (fun x_56 I_z5 J_z5 ri_58 rj_z5 rq_z5 h_5 => ?_)
    rw [fe_I h_5, fe_J h_5, fe_rj h_5, fe_rq h_5]
    refine fg_bV g_X10_reckon_f rfl (fun I_66 J_z6 ri_67 rj_z6 rq_z6 h_6 => ?_)
    rw [fe_J h_6, fe_rj h_6, fe_rq h_6]
    refine fg_ap (fun y_73 => ?_)
    refine fg_if ?_ ?_
    · exact g_X10_goBy_K174_f 
    · refine fg_ap (fun y_133 => ?_)
      refine fg_bV g_X3_line_331_f rfl (fun I_z7 J_z7 ri_137 rj_z7 rq_z7 h_7 => ?_)
      rw [fe_I h_7, fe_J h_7, fe_rj h_7, fe_rq h_7]
      refine fg_bI g_X0_onRings_f rfl (fun x_143 I_z8 J_z8 ri_z8 rj_z8 rq_z8 h_8 => ?_)
      rw [fe_I h_8, fe_J h_8, fe_ri h_8, fe_rj h_8, fe_rq h_8]
      refine fg_bI g_X3_whoIsSo_f rfl (fun x_150 I_z9 J_z9 ri_152 rj_z9 rq_z9 h_9 => ?_)
      rw [fe_I h_9, fe_J h_9, fe_rj h_9, fe_rq h_9]
      refine fg_ap (fun y_159 => ?_)
      refine fg_bV g_X0_board_331_f rfl (fun I_z10 J_z10 ri_162 rj_z10 rq_z10 h_10 => ?_)
      rw [fe_I h_10, fe_J h_10, fe_rj h_10, fe_rq h_10]
      exact g_X10_goBy_K174_f 
  · exact fv_rt rfl

def w_X10_heirOf : wS := ([], [], [331], [], [])
theorem g_X10_heirOf_K78_f {x_288 : Int32} {k_g_X10_heirOf_L22 : (Int32) → Int32 × vM} {I : Nat → Int32} {J : Nat → Int64} {rj : Nat → Nat → Int64} {rq : Nat → Nat → Option Nat} {ri_8 : Nat → Nat → Int32} (hk_g_X10_heirOf_L22 : ∀ (x_288 : Int32), FRG Prod.snd w_X10_heirOf (I, J, ri_8, rj, rq) (k_g_X10_heirOf_L22 x_288)) : FRG Prod.snd w_X10_heirOf (I, J, ri_8, rj, rq) (g_X10_heirOf_K78 x_288 k_g_X10_heirOf_L22 ) := by
  rw [g_X10_heirOf_K78_e]
  refine fg_ap (fun x_341 => ?_)
  exact hk_g_X10_heirOf_L22 _
theorem g_X10_heirOf_L22_f {a0 : Int32} {I : Nat → Int32} {J : Nat → Int64} {rj : Nat → Nat → Int64} {rq : Nat → Nat → Option Nat} {ri_8 : Nat → Nat → Int32}  : ∀ (n_312 : Nat) (x_288 : Int32), FRG Prod.snd w_X10_heirOf (I, J, ri_8, rj, rq) (g_X10_heirOf_L22 a0 I J rj rq ri_8 n_312 x_288) := by
  intro n_312
  induction n_312 with
  | zero => intros; exact fv_rt rfl
  | succ n_312 ih =>
    intro x_288
    rw [g_X10_heirOf_L22_e]
    refine fg_ap (fun y_318 => ?_)
    refine fg_if ?_ ?_
    · exact fv_rt rfl
    · refine fg_ap (fun x_324 => ?_)
      refine fg_ap (fun x_327 => ?_)
      refine fg_ap (fun x_329 => ?_)
      refine fg_if ?_ ?_
      · refine fg_ap (fun x_345 => ?_)
        refine fg_if ?_ ?_
        · exact g_X10_heirOf_K78_f ih
        · exact fv_rt rfl
      · exact g_X10_heirOf_K78_f ih
theorem g_X10_heirOf_f {tI : Nat → Nat → Int32} {tR : Nat → Nat → Nat → Int32} {a0 : Int32} {I : Nat → Int32} {J : Nat → Int64} {ri : Nat → Nat → Int32} {rj : Nat → Nat → Int64} {rq : Nat → Nat → Option Nat}  : FRG Prod.snd w_X10_heirOf (I, J, ri, rj, rq) (g_X10_heirOf  tI tR a0 I J ri rj rq) := by
  rw [g_X10_heirOf_e]
  refine fg_ap (fun y_3 => ?_)
  refine fg_bV g_X3_line_331_f rfl (fun I_z1 J_z1 ri_8 rj_z1 rq_z1 h_1 => ?_)
  rw [fe_I h_1, fe_J h_1, fe_rj h_1, fe_rq h_1]
  exact g_X10_heirOf_L22_f  _ _

def w_X10_passTitles : wS := ([], [], [325], [], [])
theorem g_X10_passTitles_K39_f {x_565 : Int32} {k_g_X10_passTitles_L5 : (Int32) → (Int32) → (Nat → Nat → Int32) → Int32 × vM} {I : Nat → Int32} {J : Nat → Int64} {rj : Nat → Nat → Int64} {rq : Nat → Nat → Option Nat} {x_606 : Int32} {ri_607 : Nat → Nat → Int32} (hk_g_X10_passTitles_L5 : ∀ (x_564 : Int32) (x_565 : Int32) (ri_566 : Nat → Nat → Int32), FRG Prod.snd w_X10_passTitles (I, J, ri_566, rj, rq) (k_g_X10_passTitles_L5 x_564 x_565 ri_566)) : FRG Prod.snd w_X10_passTitles (I, J, ri_607, rj, rq) (g_X10_passTitles_K39 x_565 k_g_X10_passTitles_L5 x_606 ri_607) := by
  rw [g_X10_passTitles_K39_e]
  refine fg_ap (fun x_611 => ?_)
  exact hk_g_X10_passTitles_L5 _ _ _
theorem g_X10_passTitles_L5_f {a0 : Int32} {a1 : Int32} {I : Nat → Int32} {J : Nat → Int64} {rj : Nat → Nat → Int64} {rq : Nat → Nat → Option Nat}  : ∀ (n_586 : Nat) (x_564 : Int32) (x_565 : Int32) (ri_566 : Nat → Nat → Int32), FRG Prod.snd w_X10_passTitles (I, J, ri_566, rj, rq) (g_X10_passTitles_L5 a0 a1 I J rj rq n_586 x_564 x_565 ri_566) := by
  intro n_586
  induction n_586 with
  | zero => intros; exact fv_rt rfl
  | succ n_586 ih =>
    intro x_564 x_565 ri_566
    rw [g_X10_passTitles_L5_e]
    refine fg_ap (fun y_593 => ?_)
    refine fg_if ?_ ?_
    · exact fv_rt rfl
    · refine fg_ap (fun x_600 => ?_)
      refine fg_if ?_ ?_
      · refine fg_ri rfl (fun r_616 => ?_)
        refine fg_ap (fun x_617 => ?_)
        exact g_X10_passTitles_K39_f ih
      · exact g_X10_passTitles_K39_f ih
theorem g_X10_passTitles_f {a0 : Int32} {a1 : Int32} {I : Nat → Int32} {J : Nat → Int64} {ri : Nat → Nat → Int32} {rj : Nat → Nat → Int64} {rq : Nat → Nat → Option Nat}  : FRG Prod.snd w_X10_passTitles (I, J, ri, rj, rq) (g_X10_passTitles  a0 a1 I J ri rj rq) := by
  rw [g_X10_passTitles_e]
  exact g_X10_passTitles_L5_f  _ _ _ _


def w_X11_isRing : wS := ([], [], [], [], [])
theorem g_X11_isRing_f {a0 : Int32} {I : Nat → Int32} {J : Nat → Int64} {ri : Nat → Nat → Int32} {rj : Nat → Nat → Int64} {rq : Nat → Nat → Option Nat}  : FRG Prod.snd w_X11_isRing (I, J, ri, rj, rq) (g_X11_isRing  a0 I J ri rj rq) := by
  rw [g_X11_isRing_e]
  refine fg_ap (fun y_3 => ?_)
  refine fg_ap (fun x_4 => ?_)
  refine fg_ap (fun x_6 => ?_)
  exact fv_rt rfl

def w_X11_isPerson : wS := ([], [], [], [], [])
theorem g_X11_isPerson_f {a0 : Int32} {I : Nat → Int32} {J : Nat → Int64} {ri : Nat → Nat → Int32} {rj : Nat → Nat → Int64} {rq : Nat → Nat → Option Nat}  : FRG Prod.snd w_X11_isPerson (I, J, ri, rj, rq) (g_X11_isPerson  a0 I J ri rj rq) := by
  rw [g_X11_isPerson_e]
  refine fg_ap (fun y_3 => ?_)
  refine fg_ap (fun x_4 => ?_)
  refine fg_ap (fun x_6 => ?_)
  exact fv_rt rfl

def w_X11_isLot : wS := ([], [], [], [], [])
theorem g_X11_isLot_f {a0 : Int32} {I : Nat → Int32} {J : Nat → Int64} {ri : Nat → Nat → Int32} {rj : Nat → Nat → Int64} {rq : Nat → Nat → Option Nat}  : FRG Prod.snd w_X11_isLot (I, J, ri, rj, rq) (g_X11_isLot  a0 I J ri rj rq) := by
  rw [g_X11_isLot_e]
  refine fg_ap (fun y_3 => ?_)
  refine fg_ap (fun x_4 => ?_)
  refine fg_ap (fun x_6 => ?_)
  refine fg_ap (fun x_8 => ?_)
  exact fv_rt rfl

def w_X11_go : wS := ([], [], [5], [], [])
theorem g_X11_go_K40_f {I : Nat → Int32} {J : Nat → Int64} {ri : Nat → Nat → Int32} {rj : Nat → Nat → Int64} {rq : Nat → Nat → Option Nat}  : FRG Prod.snd w_X11_go (I, J, ri, rj, rq) (g_X11_go_K40 I J ri rj rq ) := by
  rw [g_X11_go_K40_e]
  exact fv_rt rfl
theorem g_X11_go_K95_f {I : Nat → Int32} {J : Nat → Int64} {ri : Nat → Nat → Int32} {rj : Nat → Nat → Int64} {rq : Nat → Nat → Option Nat}  : FRG Prod.snd w_X11_go (I, J, ri, rj, rq) (g_X11_go_K95 I J ri rj rq ) := by
  rw [g_X11_go_K95_e]
  exact fv_rt rfl
theorem g_X11_go_K81_f {I : Nat → Int32} {J : Nat → Int64} {ri : Nat → Nat → Int32} {rj : Nat → Nat → Int64} {rq : Nat → Nat → Option Nat}  : FRG Prod.snd w_X11_go (I, J, ri, rj, rq) (g_X11_go_K81 I J ri rj rq ) := by
  rw [g_X11_go_K81_e]
  exact g_X11_go_K95_f 
theorem g_X11_go_K95_2_f {I : Nat → Int32} {J : Nat → Int64} {rj : Nat → Nat → Int64} {rq : Nat → Nat → Option Nat} {ri_138 : Nat → Nat → Int32}  : FRG Prod.snd w_X11_go (I, J, ri_138, rj, rq) (g_X11_go_K95_2 I J rj rq ri_138) := by
  rw [g_X11_go_K95_2_e]
  exact fv_rt rfl
theorem g_X11_go_K81_2_f {a0 : Int32} {a1 : Int32} {I : Nat → Int32} {J : Nat → Int64} {ri : Nat → Nat → Int32} {rj : Nat → Nat → Int64} {rq : Nat → Nat → Option Nat}  : FRG Prod.snd w_X11_go (I, J, ri, rj, rq) (g_X11_go_K81_2 a0 a1 I J ri rj rq ) := by
  rw [g_X11_go_K81_2_e]
  refine fg_ri rfl (fun r_141 => ?_)
  exact g_X11_go_K95_2_f 
theorem g_X11_go_K76_f {a0 : Int32} {a1 : Int32} {I : Nat → Int32} {J : Nat → Int64} {ri : Nat → Nat → Int32} {rj : Nat → Nat → Int64} {rq : Nat → Nat → Option Nat}  : FRG Prod.snd w_X11_go (I, J, ri, rj, rq) (g_X11_go_K76 a0 a1 I J ri rj rq ) := by
  rw [g_X11_go_K76_e]
  exact g_X11_go_K81_2_f 
theorem g_X11_go_K80_f {I : Nat → Int32} {J : Nat → Int64} {ri : Nat → Nat → Int32} {rj : Nat → Nat → Int64} {rq : Nat → Nat → Option Nat}  : FRG Prod.snd w_X11_go (I, J, ri, rj, rq) (g_X11_go_K80 I J ri rj rq ) := by
  rw [g_X11_go_K80_e]
  exact g_X11_go_K81_f 
theorem g_X11_go_f {a0 : Int32} {a1 : Int32} {I : Nat → Int32} {J : Nat → Int64} {ri : Nat → Nat → Int32} {rj : Nat → Nat → Int64} {rq : Nat → Nat → Option Nat}  : FRG Prod.snd w_X11_go (I, J, ri, rj, rq) (g_X11_go  a0 a1 I J ri rj rq) := by
  rw [g_X11_go_e]
  refine fg_bI g_X11_isPerson_f rfl (fun x_1 I_z1 J_z1 ri_z1 rj_z1 rq_z1 h_1 => ?_)
  rw [fe_I h_1, fe_J h_1, fe_ri h_1, fe_rj h_1, fe_rq h_1]
  refine fg_if ?_ ?_
  · exact fv_rt rfl
  · refine fg_ap (fun x_18 => ?_)
    refine fg_if ?_ ?_
    · exact g_X11_go_K40_f 
    · refine fg_if ?_ ?_
      · exact g_X11_go_K40_f 
      · refine fg_bI g_X11_isRing_f rfl (fun x_80 I_z2 J_z2 ri_z2 rj_z2 rq_z2 h_2 => ?_)
        rw [fe_I h_2, fe_J h_2, fe_ri h_2, fe_rj h_2, fe_rq h_2]
        refine fg_if ?_ ?_
        · refine fg_if ?_ ?_
          · exact g_X11_go_K76_f 
          · refine fg_bI g_X11_isLot_f rfl (fun x_157 I_z3 J_z3 ri_z3 rj_z3 rq_z3 h_3 => ?_)
            rw [fe_I h_3, fe_J h_3, fe_ri h_3, fe_rj h_3, fe_rq h_3]
            refine fg_if ?_ ?_
            · exact g_X11_go_K80_f 
            · refine fg_ap (fun x_192 => ?_)
              refine fg_bI g_X0_freeBeds_f rfl (fun x_194 I_z4 J_z4 ri_z4 rj_z4 rq_z4 h_4 => ?_)
              rw [fe_I h_4, fe_J h_4, fe_ri h_4, fe_rj h_4, fe_rq h_4]
              refine fg_if ?_ ?_
              · exact g_X11_go_K80_f 
              · exact g_X11_go_K76_f 
        · exact g_X11_go_K76_f 

def w_X11_canGoBy : wS := ([], [], [], [], [])
theorem g_X11_canGoBy_K35_f {I : Nat → Int32} {J : Nat → Int64} {ri : Nat → Nat → Int32} {rj : Nat → Nat → Int64} {rq : Nat → Nat → Option Nat}  : FRG Prod.snd w_X11_canGoBy (I, J, ri, rj, rq) (g_X11_canGoBy_K35 I J ri rj rq ) := by
  rw [g_X11_canGoBy_K35_e]
  exact fv_rt rfl
theorem g_X11_canGoBy_f {a0 : Int32} {a1 : Int32} {a2 : Int32} {I : Nat → Int32} {J : Nat → Int64} {ri : Nat → Nat → Int32} {rj : Nat → Nat → Int64} {rq : Nat → Nat → Option Nat}  : FRG Prod.snd w_X11_canGoBy (I, J, ri, rj, rq) (g_X11_canGoBy  a0 a1 a2 I J ri rj rq) := by
  rw [g_X11_canGoBy_e]
  refine fg_ap (fun x_1 => ?_)
  refine fg_if ?_ ?_
  · exact g_X11_canGoBy_K35_f 
  · refine fg_ap (fun x_59 => ?_)
    refine fg_if ?_ ?_
    · exact g_X11_canGoBy_K35_f 
    · refine fg_ap (fun y_91 => ?_)
      refine fg_ap (fun x_92 => ?_)
      refine fg_if ?_ ?_
      · exact g_X11_canGoBy_K35_f 
      · exact fv_rt rfl

def w_X11_months : wS := ([66, 320, 321, 323, 324], [67], [5, 6, 7, 8, 12, 13, 14, 15, 73, 74, 76, 77, 81, 82, 83, 102, 103, 289, 290, 331, 332], [68], [])
theorem g_X11_months_L15_f {a0 : Int32} {a1 : Int32} {rq : Nat → Nat → Option Nat} {tI : Nat → Nat → Int32} {tR : Nat → Nat → Nat → Int32}  : ∀ (n_369 : Nat) (x_344 : Int32) (I_345 : Nat → Int32) (J_346 : Nat → Int64) (ri_347 : Nat → Nat → Int32) (rj_348 : Nat → Nat → Int64), FRG Prod.snd w_X11_months (I_345, J_346, ri_347, rj_348, rq) (g_X11_months_L15 a0 a1 rq tI tR n_369 x_344 I_345 J_346 ri_347 rj_348) := by
  intro n_369
  induction n_369 with
  | zero => intros; exact fv_rt rfl
  | succ n_369 ih =>
    intro x_344 I_345 J_346 ri_347 rj_348
    rw [g_X11_months_L15_e]
    refine fg_if ?_ ?_
    · refine fg_ap (fun y_379 => ?_)
      exact fv_rt rfl
    · refine fg_bV g_X10_goBy_f rfl (fun I_383 J_384 ri_385 rj_386 rq_z1 h_1 => ?_)
      rw [fe_rq h_1]
      refine fg_ap (fun x_392 => ?_)
      exact ih _ _ _ _ _
theorem g_X11_months_f {tI : Nat → Nat → Int32} {tR : Nat → Nat → Nat → Int32} {a0 : Int32} {a1 : Int32} {I : Nat → Int32} {J : Nat → Int64} {ri : Nat → Nat → Int32} {rj : Nat → Nat → Int64} {rq : Nat → Nat → Option Nat}  : FRG Prod.snd w_X11_months (I, J, ri, rj, rq) (g_X11_months  tI tR a0 a1 I J ri rj rq) := by
  rw [g_X11_months_e]
  refine fg_bI g_X11_canGoBy_f rfl (fun x_1 I_z2 J_z2 ri_z2 rj_z2 rq_z2 h_2 => ?_)
  rw [fe_I h_2, fe_J h_2, fe_ri h_2, fe_rj h_2, fe_rq h_2]
  refine fg_if ?_ ?_
  · exact fv_rt rfl
  · exact g_X11_months_L15_f  _ _ _ _ _ _
