/-! ===== pure: who is dead, on both sides ===== -/
section PU19
variable {I : Nat → Int32} {J : Nat → Int64} {ri : Nat → Nat → Int32} {rj : Nat → Nat → Int64} {rq : Nat → Nat → Option Nat}
variable {U : Nat → Int32} {V : Nat → Int64} {si : Nat → Nat → Int32} {sj : Nat → Nat → Int64} {sq : Nat → Nat → Option Nat}
/-- the dead are the dead; a group's lot is none or one of the LOTS -/
def DC (r0 r : Nat → Nat → Int32) : Prop := (∀ q, r 5 q = 300 ↔ r0 5 q = 300) ∧ ∀ k, -2 ≤ (r 15 k).toInt ∧ (r 15 k).toInt ≤ 4
def DCv (r0 : Nat → Nat → Int32) (b : vM) : Prop := DC r0 b.2.2.1
theorem dc_o {r0 r r1 : Nat → Nat → Int32} (h : DC r0 r) (e5 : r1 5 = r 5) (e15 : r1 15 = r 15) : DC r0 r1 := ⟨fun q => by rw [e5]; exact h.1 q, fun k => by rw [e15]; exact h.2 k⟩
theorem bV_to {β : Type} {P : β → Prop} {Q : vM → Prop} {p : vM} {k : (Nat → Int32) → (Nat → Int64) → (Nat → Nat → Int32) → (Nat → Nat → Int64) → (Nat → Nat → Option Nat) → β} (h : Q p) (H : ∀ I J ri rj rq, Q (I, J, ri, rj, rq) → P (k I J ri rj rq)) : P (bnV p k) := H _ _ _ _ _ h
theorem takeLot_d {a : Int32} (h10 : (I 10).toInt ≤ 5) : ∃ (v : Int32) (r1 : Nat → Nat → Int32), g_X0_takeLot a I J ri rj rq = (v, I, J, r1, rj, rq) ∧ (-1 ≤ v.toInt ∧ v.toInt ≤ 4) ∧ r1 5 = ri 5 ∧ r1 15 = ri 15 := by
  have go : ∀ (n : Nat) (x : Int32), 0 ≤ x.toInt → ∃ (v : Int32) (r1 : Nat → Nat → Int32), g_X0_takeLot_L2 a I J ri rj rq n x = (v, I, J, r1, rj, rq) ∧ (-1 ≤ v.toInt ∧ v.toInt ≤ 4) ∧ r1 5 = ri 5 ∧ r1 15 = ri 15 := by
    intro n
    induction n with
    | zero => intro x _; exact ⟨0, ri, rfl, by decide, rfl, rfl⟩
    | succ n ih =>
      intro x x0
      rw [g_X0_takeLot_L2_e]
      simp only [↓ap1_n]
      by_cases c : I 10 ≤ x
      · rw [if_pos c]; exact ⟨-1, ri, rfl, by decide, rfl, rfl⟩
      · have c1 := Int32.lt_iff_toInt_lt.mp (Int32.not_le.mp c)
        have e := t1_inc (x := x) (by omega) (by omega)
        rw [if_neg c]
        by_cases d : ri 13 x.toNatClampNeg < a
        · rw [if_pos d]; exact ih _ (by omega)
        · rw [if_neg d]; exact ⟨x, _, rfl, ⟨by omega, by omega⟩, va_up_ne _ _ (show (5 : Nat) ≠ 13 by decide), va_up_ne _ _ (show (15 : Nat) ≠ 13 by decide)⟩
  rw [g_X0_takeLot_e]
  exact go _ _ (by decide)
theorem isOnRing_d {a : Int32} (h : (g_X0_isOnRing a I J ri rj rq).1 ≠ 0) : ri 5 a.toNatClampNeg ≠ 300 := fun q => by
  refine h ?_
  rw [g_X0_isOnRing_e]
  simp only [↓ap1_n, q, if_pos (show (5 : Int32) ≤ 300 by decide)]
theorem countGroups_d {a : Int64} {r0 : Nat → Nat → Int32} (h : DC r0 ri) : DCv r0 (g_X0_countGroups a I J ri rj rq) := by
  have go : ∀ (n : Nat) (x : Int32) (r : Nat → Nat → Int32), DC r0 r → DCv r0 (g_X0_countGroups_L19 a I J rj rq n x r) := by
    intro n
    induction n with
    | zero => intro x r h; exact h
    | succ n ih =>
      intro x r h
      rw [g_X0_countGroups_L19_e]
      simp only [↓ap1_n, g_X0_countGroups_K57]
      split
      · exact h
      · split
        · exact ih _ _ h
        · rw [bn_p g_X0_isOnRing_f]
          split
          · exact ih _ _ h
          · rw [bn_p g_X0_groupOf_f]
            exact ih _ _ (dc_o h (va_up_ne _ _ (show (5 : Nat) ≠ 14 by decide)) (va_up_ne _ _ (show (15 : Nat) ≠ 14 by decide)))
  have f15 : DC r0 (va_up (va_up ri 14 (fil (0 : Int32) 50 (ri 14))) 15 (fil (-2 : Int32) 50 (va_up ri 14 (fil (0 : Int32) 50 (ri 14)) 15))) := ⟨fun q => by
    rw [va_up_ne _ _ (show (5 : Nat) ≠ 15 by decide), va_up_ne _ _ (show (5 : Nat) ≠ 14 by decide)]; exact h.1 q, fun k => by
    rw [va_up_self, va_up_ne _ _ (show (15 : Nat) ≠ 14 by decide)]
    by_cases c : k < 50
    · have e : fil (-2 : Int32) 50 (ri 15) k = -2 := if_pos c
      rw [e]; decide
    · have e : fil (-2 : Int32) 50 (ri 15) k = ri 15 k := if_neg c
      rw [e]; exact h.2 k⟩
  rw [g_X0_countGroups_e]
  simp only [↓ap1_n]
  exact go _ _ _ f15
theorem bd_165 {a4 x2 x3 x4 x1 : Int32} {k : Int32 → Int32 → (Nat → Nat → Int32) → vM} {r0 r : Nat → Nat → Int32} (hk : ∀ y z s, DC r0 s → DCv r0 (k y z s)) (h5 : r 5 x3.toNatClampNeg ≠ 300) (h : DC r0 r) : DCv r0 (g_X0_board_331_K165 a4 x2 k x3 x4 x1 r) := by
  have hn : (100 : Int32) + r 15 x4.toNatClampNeg ≠ 300 := hundred (by have := (h.2 x4.toNatClampNeg).1; omega) (by have := (h.2 x4.toNatClampNeg).2; omega)
  rw [g_X0_board_331_K165_e]
  simp only [↓ap1_n, g_X0_board_331_K202]
  split
  · exact hk _ _ _ h
  · refine hk _ _ _ ⟨fun q => ?_, fun j => ?_⟩
    · rw [va_up_ne _ _ (show (5 : Nat) ≠ 8 by decide), va_up_self]
      by_cases e : q = x3.toNatClampNeg
      · rw [e, upd_s]
        exact ⟨fun y => absurd y hn, fun y => absurd ((h.1 _).mpr y) h5⟩
      · rw [upd_n _ _ e]; exact h.1 q
    · rw [va_up_ne _ _ (show (15 : Nat) ≠ 8 by decide), va_up_ne _ _ (show (15 : Nat) ≠ 5 by decide)]; exact h.2 j
theorem bd_137 {a4 x2 x3 x4 x1 v : Int32} {k : Int32 → Int32 → (Nat → Nat → Int32) → vM} {r0 r : Nat → Nat → Int32} (hk : ∀ y z s, DC r0 s → DCv r0 (k y z s)) (hv : -2 ≤ v.toInt ∧ v.toInt ≤ 4) (h5 : r 5 x3.toNatClampNeg ≠ 300) (h : DC r0 r) : DCv r0 (g_X0_board_331_K137 a4 x1 x2 k x3 x4 v r) := by
  have hs : DC r0 (va_up r 15 (upd (r 15) x4.toNatClampNeg v)) := ⟨fun q => by rw [va_up_ne _ _ (show (5 : Nat) ≠ 15 by decide)]; exact h.1 q, fun j => by
    rw [va_up_self]
    by_cases e : j = x4.toNatClampNeg
    · rw [e, upd_s]; exact hv
    · rw [upd_n _ _ e]; exact h.2 j⟩
  have hn : va_up r 15 (upd (r 15) x4.toNatClampNeg v) 5 x3.toNatClampNeg ≠ 300 := by rw [va_up_ne _ _ (show (5 : Nat) ≠ 15 by decide)]; exact h5
  rw [g_X0_board_331_K137_e]
  simp only [↓ap1_n, g_X0_board_331_K162]
  split
  · exact bd_165 hk hn hs
  · exact bd_165 hk hn hs
theorem bd_43 {a0 : Int64} {a2 a4 : Int32} {r0 : Nat → Nat → Int32} (h10 : (I 10).toInt ≤ 5) : ∀ (n : Nat) (x1 x2 : Int32) (r : Nat → Nat → Int32), DC r0 r → DCv r0 (g_X0_board_331_L43 a0 a2 a4 I J rj rq n x1 x2 r) := by
  intro n
  induction n with
  | zero => intro x1 x2 r h; exact h
  | succ n ih =>
    intro x1 x2 r h
    rw [g_X0_board_331_L43_e]
    simp only [↓ap1_n, g_X0_board_331_K202]
    split
    · exact h
    · split
      · exact h
      · split
        · exact ih _ _ _ h
        · rw [bn_p g_X0_isOnRing_f]
          by_cases c : (g_X0_isOnRing (r 331 x2.toNatClampNeg) I J r rj rq).1 = 0
          · rw [if_pos c]
            exact ih _ _ _ h
          · have h5 := isOnRing_d c
            rw [if_neg c, bn_p g_X0_groupOf_f]
            generalize (g_X0_groupOf (r 331 x2.toNatClampNeg) I J r rj rq).1 = gq
            split
            · split
              · exact bd_137 ih (by decide) h5 h
              · obtain ⟨v, r1, e1, hv, e5, e15⟩ := takeLot_d (a := r 14 gq.toNatClampNeg) (J := J) (ri := r) (rj := rj) (rq := rq) h10
                rw [e1, bnI_mk]
                exact bd_137 ih ⟨by omega, hv.2⟩ (by rw [e5]; exact h5) (dc_o h e5 e15)
            · exact bd_165 ih h5 h
theorem bd_8 {a0 : Int64} {a2 a3 a4 : Int32} {r0 : Nat → Nat → Int32} (h10 : (I 10).toInt ≤ 5) : ∀ (n : Nat) (x : Int32) (r : Nat → Nat → Int32), DC r0 r → DCv r0 (g_X0_board_331_L8 a0 a2 a3 a4 I J rj rq n x r) := by
  intro n
  induction n with
  | zero => intro x r h; exact h
  | succ n ih =>
    intro x r h
    rw [g_X0_board_331_L8_e]
    simp only [↓ap1_n]
    split
    · exact bd_43 h10 _ _ _ _ h
    · rw [bn_p g_X0_freeBeds_f]
      exact ih _ _ (dc_o h (va_up_ne _ _ (show (5 : Nat) ≠ 13 by decide)) (va_up_ne _ _ (show (15 : Nat) ≠ 13 by decide)))
theorem board_d {a0 : Int64} {a2 a3 a4 : Int32} {r0 : Nat → Nat → Int32} (h10 : (I 10).toInt ≤ 5) (h : DC r0 ri) : DCv r0 (g_X0_board_331 a0 a2 a3 a4 I J ri rj rq) := by
  rw [g_X0_board_331_e]
  exact bV_to (P := DCv r0) (Q := DCv r0) (countGroups_d h) (fun _ _ r1 _ _ h1 => bd_8 h10 _ _ _ h1)
theorem goBy_d {tI : Nat → Nat → Int32} {tR : Nat → Nat → Nat → Int32} {a0 : Int32} {r0 : Nat → Nat → Int32} (h10 : (I 10).toInt ≤ 5) (h : DC r0 ri) : DCv r0 (g_X10_goBy tI tR a0 I J ri rj rq) := by
  rw [g_X10_goBy_e]
  simp only [↓ap1_n]
  split
  · refine bV_of (P := DCv r0) g_X10_nature_f (fun I1 _ ra _ _ h1 => ?_)
    refine bV_of (P := DCv r0) g_X9_fillUp_f (fun _ _ rb _ _ h2 => ?_)
    refine bV_of (P := DCv r0) g_X2_countBeds_332_f (fun _ _ rc _ _ h3 => ?_)
    refine bI_of (P := DCv r0) g_X0_drink_f (fun _ _ _ rd _ _ h4 => ?_)
    refine bI_of (P := DCv r0) g_X0_sleep_332_f (fun _ _ _ re _ _ h5 => ?_)
    refine bV_of (P := DCv r0) g_X10_reckon_f (fun I2 _ rf _ _ h6 => ?_)
    have a1 : ra 5 = ri 5 := h1.2.2.1 5 (by decide)
    have b1 : ra 15 = ri 15 := h1.2.2.1 15 (by decide)
    have a2 : rb 5 = ra 5 := h2.2.2.1 5 (by decide)
    have b2 : rb 15 = ra 15 := h2.2.2.1 15 (by decide)
    have a3 : rc 5 = rb 5 := h3.2.2.1 5 (by decide)
    have b3 : rc 15 = rb 15 := h3.2.2.1 15 (by decide)
    have a4 : rd 5 = rc 5 := h4.2.2.1 5 (by decide)
    have b4 : rd 15 = rc 15 := h4.2.2.1 15 (by decide)
    have a5 : re 5 = rd 5 := h5.2.2.1 5 (by decide)
    have b5 : re 15 = rd 15 := h5.2.2.1 15 (by decide)
    have a6 : rf 5 = re 5 := h6.2.2.1 5 (by decide)
    have b6 : rf 15 = re 15 := h6.2.2.1 15 (by decide)
    have i1 : I1 10 = I 10 := h1.1 10 (by decide)
    have i2 : I2 10 = I1 10 := h6.1 10 (by decide)
    have hf : DC r0 rf := dc_o h (a6.trans (a5.trans (a4.trans (a3.trans (a2.trans a1))))) (b6.trans (b5.trans (b4.trans (b3.trans (b2.trans b1)))))
    split
    · exact hf
    · refine bV_of (P := DCv r0) g_X3_line_331_f (fun _ _ rg _ _ h7 => ?_)
      refine bI_of (P := DCv r0) g_X0_onRings_f (fun _ _ _ rh _ _ h8 => ?_)
      refine bI_of (P := DCv r0) g_X3_whoIsSo_f (fun _ _ _ rk _ _ h9 => ?_)
      have a7 : rg 5 = rf 5 := h7.2.2.1 5 (by decide)
      have b7 : rg 15 = rf 15 := h7.2.2.1 15 (by decide)
      have a9 : rk 5 = rg 5 := h9.2.2.1 5 (by decide)
      have b9 : rk 15 = rg 15 := h9.2.2.1 15 (by decide)
      exact bV_to (P := DCv r0) (Q := DCv r0) (board_d (by rw [i2, i1]; exact h10) (dc_o hf (a9.trans a7) (b9.trans b7))) (fun _ _ _ _ _ hq => hq)
  · exact h
theorem months_d {tI : Nat → Nat → Int32} {tR : Nat → Nat → Nat → Int32} {a0 a1 : Int32} {r0 : Nat → Nat → Int32} (h10 : (I 10).toInt ≤ 5) (h : DC r0 ri) : DCv r0 (g_X11_months tI tR a0 a1 I J ri rj rq).2 := by
  have go : ∀ (n : Nat) (x : Int32) (I : Nat → Int32) (J : Nat → Int64) (ri : Nat → Nat → Int32) (rj : Nat → Nat → Int64), (I 10).toInt ≤ 5 → DC r0 ri → DCv r0 (g_X11_months_L15 a0 a1 rq tI tR n x I J ri rj).2 := by
    intro n
    induction n with
    | zero => intro x I J ri rj _ h; exact h
    | succ n ih =>
      intro x I J ri rj h1 h
      have hq := goBy_d (tI := tI) (tR := tR) (a0 := a1) (J := J) (rj := rj) (rq := rq) h1 h
      have hi : (g_X10_goBy tI tR a1 I J ri rj rq).1 10 = I 10 := (g_X10_goBy_f : FRG id w_X10_goBy (I, J, ri, rj, rq) (g_X10_goBy tI tR a1 I J ri rj rq)).1 10 (by decide)
      rw [g_X11_months_L15_e]
      simp only [↓ap1_n]
      split
      · exact h
      · exact bV_to (P := fun b : Int32 × vM => DCv r0 b.2) (Q := fun b : vM => DCv r0 b ∧ (b.1 10).toInt ≤ 5) ⟨hq, by rw [hi]; exact h1⟩ (fun I1 J1 r1 l1 _ hb => ih _ I1 J1 r1 l1 hb.2 hb.1)
  rw [g_X11_months_e, bn_p g_X11_canGoBy_f]
  split
  · exact h
  · exact go _ _ _ _ _ _ h10 h
/-! both sides -/
def RDF (I : Nat → Int32) (r : Nat → Nat → Int32) (A : Nat → Int32) : Prop := I 0 = A 5 ∧ ∀ p, p < 40 → (r 5 p = 300 ↔ A (740 + 12 * p + 3) = 300)
def DV (b c : Int32 × vM) : Prop := RDF b.2.1 b.2.2.2.1 (c.2.2.2.1 384)
def lot15 (r : Nat → Nat → Int32) : Prop := ∀ k, -2 ≤ (r 15 k).toInt ∧ (r 15 k).toInt ≤ 4
theorem months_D {tI : Nat → Nat → Int32} {tR : Nat → Nat → Nat → Int32} {a0 a1 : Int32} (h : RSL I ri (si 384)) (hd : RDF I ri (si 384)) (h10 : (I 10).toInt ≤ 5) (hR : lot15 ri) : DV (g_X11_months tI tR a0 a1 I J ri rj rq) (g_X12_months a0 a1 U V si sj sq) := by
  obtain ⟨v, I1, J1, r1, l1, U1, s1, m1, e1, e2, _, _, ez, e5⟩ := months_v (tI := tI) (tR := tR) (a0 := a0) (a1 := a1) (J := J) (rj := rj) (rq := rq) (U := U) (V := V) (sj := sj) (sq := sq) h
  have hc : DCv ri (g_X11_months tI tR a0 a1 I J ri rj rq).2 := months_d h10 ⟨fun _ => Iff.rfl, hR⟩
  have hf : (g_X11_months tI tR a0 a1 I J ri rj rq).2.1 0 = I 0 := (g_X11_months_f : FRG Prod.snd w_X11_months (I, J, ri, rj, rq) (g_X11_months tI tR a0 a1 I J ri rj rq)).1 0 (by decide)
  rw [e1] at hc hf
  unfold DV
  rw [e1, e2]
  exact ⟨hf.trans (hd.1.trans e5.symm), fun p hp => (hc.1 p).trans ((hd.2 p hp).trans (ez p hp).symm)⟩
theorem isPerson_c {a : Int32} : g_X11_isPerson a I J ri rj rq = (bt a 0 (I 0 - 1), I, J, ri, rj, rq) := rfl
theorem isPerson_m {a : Int32} : g_X12_isPerson a I J ri rj rq = (bt a 0 (ri 384 5 - 1), I, J, ri, rj, rq) := rfl
theorem isLot_c {a : Int32} : g_X11_isLot a I J ri rj rq = (bt a 100 (100 + I 10 - 1), I, J, ri, rj, rq) := rfl
theorem isLot_m {a : Int32} : g_X12_isLot a I J ri rj rq = (bt a 100 (100 + ri 384 4 - 1), I, J, ri, rj, rq) := rfl
theorem lot_ne {a n : Int32} (h : 0 ≤ n.toInt ∧ n.toInt ≤ 5) (q : bt a 100 (100 + n - 1) ≠ 0) : a ≠ 300 := fun y => by
  have b := bt_n q
  have e : ((100 : Int32) + n).toInt = 100 + n.toInt := i_add (show (100 : Int32).toInt = 100 by decide) rfl (by omega) (by omega)
  have e2 : ((100 : Int32) + n - 1).toInt = 100 + n.toInt - 1 := i_sub e (show (1 : Int32).toInt = 1 by decide) (by omega) (by omega)
  rw [y, show (300 : Int32).toInt = 300 by decide] at b
  omega
theorem ring_ne {a n : Int32} (h : 0 ≤ n.toInt ∧ n.toInt ≤ 5) (q : bt a 0 (n - 1) ≠ 0) : a ≠ 300 := fun y => by
  have b := bt_cell h.1 (by omega) q
  rw [y, show (300 : Int32).toInt = 300 by decide] at b
  omega
/-- title: both sides answer the same -/
theorem title_v {a0 a1 : Int32} (h : RSL I ri (si 384)) (hd : RDF I ri (si 384)) : (g_X11_title a0 a1 I J ri rj rq).1 = (g_X12_title a0 a1 U V si sj sq).1 := by
  obtain ⟨_, ⟨_, ⟨p0, p4⟩, _⟩, ⟨_, _, e2, _⟩, _⟩ := h
  obtain ⟨e5, hp⟩ := hd
  rw [g_X11_title_e, g_X12_title_e, isCell_c, isCell_m]
  simp only [bnI_mk]
  rw [← e2]
  by_cases q1 : bt a0 0 (I 65 - 1) = 0
  · rw [if_pos q1, if_pos q1]; rfl
  · rw [if_neg q1, if_neg q1]
    by_cases q2 : a1 = -1
    · rw [if_pos q2, if_pos q2]; rfl
    · rw [if_neg q2, if_neg q2, isPerson_c, isPerson_m]
      simp only [bnI_mk]
      rw [← e5]
      by_cases q3 : bt a1 0 (I 0 - 1) = 0
      · rw [if_pos q3, if_pos q3]; rfl
      · have b := bt_cell (n := I 0) (by rw [e5]; exact p0) (by rw [e5]; exact p4) q3
        have z := clampE a1
        have a39 : a1.toInt ≤ 39 := by rw [e5] at b; omega
        have e := hp a1.toNatClampNeg (by omega)
        rw [if_neg q3, if_neg q3, bn_p g_X12_personAt_c3_f, personAt3 b.1 a39]
        simp only [↓ap1_n]
        by_cases q4 : ri 5 a1.toNatClampNeg = 300
        · rw [if_pos q4, if_pos (e.mp q4)]; rfl
        · rw [if_neg q4, if_neg (fun y => q4 (e.mpr y))]; rfl
/-- go, the class's side -/
theorem go_d {a0 a1 : Int32} (h64 : 0 ≤ (I 64).toInt ∧ (I 64).toInt ≤ 5) (h10 : 0 ≤ (I 10).toInt ∧ (I 10).toInt ≤ 5) (hR : lot15 ri) : DCv ri (g_X11_go a0 a1 I J ri rj rq).2 := by
  have same : DC ri ri := ⟨fun _ => Iff.rfl, hR⟩
  have put : ri 5 a0.toNatClampNeg ≠ 300 → a1 ≠ 300 → DC ri (va_up ri 5 (upd (ri 5) a0.toNatClampNeg a1)) := fun h0 h1 => ⟨fun q => by
    rw [va_up_self]
    by_cases e : q = a0.toNatClampNeg
    · rw [e, upd_s]; exact ⟨fun y => absurd y h1, fun y => absurd y h0⟩
    · have e2 := upd_n (ri 5) a1 e
      exact ⟨fun y => e2.symm.trans y, fun y => e2.trans y⟩, fun k => by rw [va_up_ne _ _ (show (15 : Nat) ≠ 5 by decide)]; exact hR k⟩
  rw [g_X11_go_e, isPerson_c, bnI_mk]
  by_cases q1 : bt a0 0 (I 0 - 1) = 0
  · rw [if_pos q1]; exact same
  · rw [if_neg q1]
    simp only [↓ap1_n, g_X11_go_K40, g_X11_go_K76, g_X11_go_K80, g_X11_go_K81, g_X11_go_K81_2, g_X11_go_K95, g_X11_go_K95_2]
    by_cases q2 : ri 5 a0.toNatClampNeg = 300
    · rw [if_pos q2]; exact same
    · rw [if_neg q2]
      by_cases q3 : ri 5 a0.toNatClampNeg = a1
      · rw [if_pos q3]; exact same
      · rw [if_neg q3, isRing_c, bnI_mk]
        by_cases q4 : bt a1 0 (I 64 - 1) = 0
        · rw [if_pos q4]
          by_cases q5 : a1 = 200
          · have n5 : a1 ≠ 300 := by rw [q5]; decide
            rw [if_pos q5]; exact put q2 n5
          · rw [if_neg q5, isLot_c, bnI_mk]
            by_cases q6 : bt a1 100 (100 + I 10 - 1) = 0
            · rw [if_pos q6]; exact same
            · have n6 : a1 ≠ 300 := lot_ne h10 q6
              rw [if_neg q6, bn_p g_X0_freeBeds_f]
              split
              · exact same
              · exact put q2 n6
        · have n4 : a1 ≠ 300 := ring_ne h64 q4
          rw [if_neg q4]
          exact put q2 n4
/-- go, the reference's side -/
theorem place_ne {a : Int32} (h1 : 0 ≤ (si 384 1).toInt ∧ (si 384 1).toInt ≤ 5) (h4 : 0 ≤ (si 384 4).toInt ∧ (si 384 4).toInt ≤ 5) (q : (g_X12_isPlace a U V si sj sq).1 ≠ 0) : a ≠ 300 := fun y => by
  refine q ?_
  have n1 : bt a 0 (si 384 1 - 1) = 0 := Classical.byContradiction fun k => ring_ne h1 k y
  have n2 : bt a 100 (100 + si 384 4 - 1) = 0 := Classical.byContradiction fun k => lot_ne h4 k y
  have n3 : ¬ a = 200 := by rw [y]; decide
  have e : g_X12_isPlace a U V si sj sq = (0, U, V, si, sj, sq) := by
    rw [g_X12_isPlace_e, isRing_m, bnI_mk, if_pos n1, isLot_m, bnI_mk, if_pos n2, if_neg n3]
  exact congrArg Prod.fst e
theorem go_z {a0 a1 : Int32} (hM : RMX (si 384)) (h4 : 0 ≤ (si 384 4).toInt) : zk (si 384) ((g_X12_go a0 a1 U V si sj sq).2.2.2.1 384) := by
  obtain ⟨h1, ⟨p0, p4⟩, q4⟩ := hM
  have same : zk (si 384) (si 384) := ⟨fun _ _ => Iff.rfl, rfl⟩
  rw [g_X12_go_e, isPerson_m, bnI_mk]
  simp only [g_X12_go_K38]
  by_cases q1 : bt a0 0 (si 384 5 - 1) = 0
  · rw [if_pos q1]; exact same
  · have b := bt_cell p0 p4 q1
    have z := clampE a0
    have b39 : a0.toInt ≤ 39 := by omega
    have put : si 384 (740 + 12 * a0.toNatClampNeg + 3) ≠ 300 → a1 ≠ 300 → zk (si 384) ((g_X12_go_K61 a0 a1 U V si sj sq).2.2.2.1 384) := fun h0 h1 => by
      rw [g_X12_go_K61_e]
      simp only [↓ap1_n]
      rw [ixp (c := a0) (k := 3) 3 (by decide) (by decide) b.1 b39, va_up_self]
      exact ⟨(zm_p3 (by omega) h0 h1).2, upd_n _ _ (by omega)⟩
    rw [if_neg q1, bn_p g_X12_isPlace_f]
    by_cases q2 : (g_X12_isPlace a1 U V si sj sq).1 = 0
    · rw [if_pos q2]; exact same
    · have hn : a1 ≠ 300 := place_ne h1 ⟨h4, q4⟩ q2
      rw [if_neg q2, bn_p g_X12_personAt_c3_f, personAt3 b.1 b39]
      by_cases q3 : si 384 (740 + 12 * a0.toNatClampNeg + 3) = a1
      · rw [if_pos q3]; exact same
      · rw [if_neg q3, bn_p g_X12_personAt_c3_f, personAt3 b.1 b39]
        by_cases q5 : si 384 (740 + 12 * a0.toNatClampNeg + 3) = 300
        · rw [if_pos q5]; exact same
        · rw [if_neg q5, isLot_m, bnI_mk]
          by_cases q6 : bt a1 100 (100 + si 384 4 - 1) = 0
          · rw [if_pos q6]; exact put q5 hn
          · rw [if_neg q6]
            simp only [↓ap1_n]
            rw [bn_p g_X12_freeIn_f]
            by_cases q7 : 0 < (g_X12_freeIn (a1 - 100) U V si sj sq).1
            · rw [if_pos q7]; exact put q5 hn
            · rw [if_neg q7]; exact same
theorem go_D {a0 a1 : Int32} (h : RSL I ri (si 384)) (hd : RDF I ri (si 384)) (h10 : 0 ≤ (I 10).toInt ∧ (I 10).toInt ≤ 5) (h4 : 0 ≤ (si 384 4).toInt) (hR : lot15 ri) : DV (g_X11_go a0 a1 I J ri rj rq) (g_X12_go a0 a1 U V si sj sq) := by
  have hM := h.2.1
  have e1 := h.2.2.1.2.1
  have hc : DCv ri (g_X11_go a0 a1 I J ri rj rq).2 := go_d (by rw [e1]; exact hM.1) h10 hR
  have hz := go_z (a0 := a0) (a1 := a1) (U := U) (V := V) (sj := sj) (sq := sq) hM h4
  have hf : (g_X11_go a0 a1 I J ri rj rq).2.1 0 = I 0 := (g_X11_go_f : FRG Prod.snd w_X11_go (I, J, ri, rj, rq) (g_X11_go a0 a1 I J ri rj rq)).1 0 (by decide)
  exact ⟨hf.trans (hd.1.trans hz.2.symm), fun p hp => (hc.1 p).trans ((hd.2 p hp).trans (hz.1 p hp).symm)⟩
/-- death, the class's side -/
theorem death_c {tI : Nat → Nat → Int32} {tR : Nat → Nat → Nat → Int32} {a0 : Int32} (hp : bt a0 0 (I 0 - 1) ≠ 0) (hd : ri 5 a0.toNatClampNeg ≠ 300) : (g_X11_death tI tR a0 I J ri rj rq).2.1 0 = I 0 ∧ (g_X11_death tI tR a0 I J ri rj rq).2.2.2.1 5 = upd (ri 5) a0.toNatClampNeg 300 := by
  rw [g_X11_death_e, isPerson_c, bnI_mk, if_neg hp]
  simp only [↓ap1_n]
  rw [if_neg hd]
  refine bI_of (P := fun b : Int32 × vM => b.2.1 0 = I 0 ∧ b.2.2.2.1 5 = upd (ri 5) a0.toNatClampNeg 300) g_X10_heirOf_f (fun _ _ _ r1 _ _ h1 => ?_)
  refine bI_of (P := fun b : Int32 × vM => b.2.1 0 = I 0 ∧ b.2.2.2.1 5 = upd (ri 5) a0.toNatClampNeg 300) g_X10_passTitles_f (fun _ _ _ r2 _ _ h2 => ?_)
  have e1 : r1 5 = va_up ri 5 (upd (ri 5) a0.toNatClampNeg 300) 5 := h1.2.2.1 5 (by decide)
  have e2 : r2 5 = r1 5 := h2.2.2.1 5 (by decide)
  exact ⟨rfl, e2.trans (e1.trans (va_up_self _ _ _))⟩
/-- death, the reference's side -/
theorem death_L {a0 x3 : Int32} {I1 : Nat → Int32} {B : Nat → Int32} (c4 : (si 384 2).toInt ≤ 40) : ∀ (n : Nat) (x1 x2 : Int32) (r : Nat → Nat → Int32), 0 ≤ x2.toInt → (∀ i, (∀ c, c < 40 → i ≠ 100 + 16 * c + 14) → r 384 i = B i) → ∀ i, (∀ c, c < 40 → i ≠ 100 + 16 * c + 14) → (g_X12_death_L140 a0 V si sj sq I1 x3 n x1 x2 r).2.2.2.1 384 i = B i := by
  intro n
  induction n with
  | zero => intro x1 x2 r _ h; exact h
  | succ n ih =>
    intro x1 x2 r x0 h
    have zx := clampE x2
    rw [g_X12_death_L140_e]
    simp only [↓ap1_n, g_X12_death_K186]
    by_cases c : si 384 2 ≤ x2
    · rw [if_pos c]; exact h
    · have c1 := Int32.lt_iff_toInt_lt.mp (Int32.not_le.mp c)
      have e := t1_inc (x := x2) (by omega) (by omega)
      rw [if_neg c, bn_p g_X12_cellAt_c14_f]
      split
      · rw [ixk (c := x2) (k := 14) 14 (by decide) (by decide) x0 (by omega)]
        refine ih _ _ _ (by omega) (fun i hi => ?_)
        rw [va_up_self, upd_n _ _ (hi _ (by omega))]
        exact h i hi
      · exact ih _ _ _ (by omega) h
theorem death_L2 {a0 x3 y1 : Int32} {I1 : Nat → Int32} {r : Nat → Nat → Int32} (c4 : (si 384 2).toInt ≤ 40) : ∀ (n : Nat) (x1 x2 : Int32), ∀ i, (∀ c, c < 40 → i ≠ 100 + 16 * c + 14) → (g_X12_death_L58 a0 V si sj sq r y1 I1 x3 n x1 x2).2.2.2.1 384 i = r 384 i := by
  intro n
  induction n with
  | zero => intro _ _ _ _; rfl
  | succ n ih =>
    intro x1 x2 i hi
    rw [g_X12_death_L58_e]
    simp only [↓ap1_n, g_X12_death_K128, g_X12_death_K125]
    split
    · exact death_L c4 _ _ _ _ (by decide) (fun _ _ => rfl) i hi
    · rw [bn_p g_X12_personAt_c0_f, bn_p g_X12_personAt_c0_f]
      split
      · rw [bn_p g_X12_personAt_c3_f]
        split
        · exact ih _ _ i hi
        · split
          · exact ih _ _ i hi
          · split
            · exact ih _ _ i hi
            · rw [bn_p g_X12_isAhead_f]
              split
              · exact ih _ _ i hi
              · exact ih _ _ i hi
      · exact ih _ _ i hi
theorem death_m {a0 : Int32} (c4 : (si 384 2).toInt ≤ 40) (p0 : 0 ≤ (si 384 5).toInt) (p4 : (si 384 5).toInt ≤ 40) (hp : bt a0 0 (si 384 5 - 1) ≠ 0) (hd : si 384 (740 + 12 * a0.toNatClampNeg + 3) ≠ 300) : ∀ i, (∀ c, c < 40 → i ≠ 100 + 16 * c + 14) → (g_X12_death a0 U V si sj sq).2.2.2.1 384 i = upd (si 384) (740 + 12 * a0.toNatClampNeg + 3) 300 i := by
  have b := bt_cell p0 p4 hp
  have b39 : a0.toInt ≤ 39 := by omega
  intro i hi
  rw [g_X12_death_e, isPerson_m, bnI_mk, if_neg hp, bn_p g_X12_personAt_c3_f, personAt3 b.1 b39, if_neg hd]
  simp only [↓ap1_n]
  rw [ixp (c := a0) (k := 3) 3 (by decide) (by decide) b.1 b39]
  refine bI_of (P := fun q : Int32 × vM => q.2.2.2.1 384 i = upd (si 384) (740 + 12 * a0.toNatClampNeg + 3) 300 i) g_X12_keysFor_f (fun _ _ _ _ _ _ _ => ?_)
  exact (death_L2 c4 _ _ _ i hi).trans (congrFun (va_up_self _ _ _) i)
theorem death_D {tI : Nat → Nat → Int32} {tR : Nat → Nat → Nat → Int32} {a0 : Int32} (h : RSL I ri (si 384)) (hd : RDF I ri (si 384)) : DV (g_X11_death tI tR a0 I J ri rj rq) (g_X12_death a0 U V si sj sq) := by
  obtain ⟨⟨_, ⟨_, c4⟩, _⟩, ⟨_, ⟨p0, p4⟩, _⟩, ⟨_, _, e2, _⟩, _⟩ := h
  rw [e2] at c4
  have e5 := hd.1
  by_cases q1 : bt a0 0 (I 0 - 1) = 0
  · have c1 : g_X11_death tI tR a0 I J ri rj rq = (-1, I, J, ri, rj, rq) := by
      rw [g_X11_death_e, isPerson_c, bnI_mk, if_pos q1]; rfl
    have c2 : g_X12_death a0 U V si sj sq = (-1, U, V, si, sj, sq) := by
      rw [g_X12_death_e, isPerson_m, bnI_mk, if_pos (by rw [← e5]; exact q1)]; rfl
    unfold DV
    rw [c1, c2]
    exact hd
  · have b := bt_cell (n := I 0) (by rw [e5]; exact p0) (by rw [e5]; exact p4) q1
    have z := clampE a0
    have a39 : a0.toInt ≤ 39 := by rw [e5] at b; omega
    have e := hd.2 a0.toNatClampNeg (by omega)
    have q3 : bt a0 0 (si 384 5 - 1) ≠ 0 := by rw [← e5]; exact q1
    by_cases q2 : ri 5 a0.toNatClampNeg = 300
    · have c1 : g_X11_death tI tR a0 I J ri rj rq = (-1, I, J, ri, rj, rq) := by
        rw [g_X11_death_e, isPerson_c, bnI_mk, if_neg q1]
        simp only [↓ap1_n]
        rw [if_pos q2]; rfl
      have c2 : g_X12_death a0 U V si sj sq = (-1, U, V, si, sj, sq) := by
        rw [g_X12_death_e, isPerson_m, bnI_mk, if_neg q3, bn_p g_X12_personAt_c3_f, personAt3 b.1 a39, if_pos (e.mp q2)]; rfl
      unfold DV
      rw [c1, c2]
      exact hd
    · obtain ⟨f0, f5⟩ := death_c (tI := tI) (tR := tR) (J := J) (rj := rj) (rq := rq) q1 q2
      have hm := death_m (a0 := a0) (U := U) (V := V) (sj := sj) (sq := sq) c4 p0 p4 q3 (fun y => q2 (e.mpr y))
      refine ⟨f0.trans (e5.trans ?_), fun p hp => ?_⟩
      · rw [hm 5 (fun c _ => by omega), upd_n _ _ (by omega)]
      · rw [f5, hm (740 + 12 * p + 3) (fun c hc => by omega)]
        by_cases s : p = a0.toNatClampNeg
        · rw [s, upd_s, upd_s]
        · rw [upd_n _ _ s, upd_n _ _ (show 740 + 12 * p + 3 ≠ 740 + 12 * a0.toNatClampNeg + 3 by omega)]
          exact hd.2 p hp
/-- a PERSON more -/
theorem addPerson_v {a0 a1 a2 a3 a4 : Int32} (d : I 0 < 40) : ∃ R : Nat → Nat → Int32, g_X0_addPerson a0 a1 a2 a3 a4 I J ri rj rq = (I 0, va_up I 0 (I 0 + 1), J, R, rj, rq) ∧ R 5 = upd (ri 5) (I 0).toNatClampNeg a3 := by
  rw [g_X0_addPerson_e]
  simp only [↓ap1_n, if_pos d]
  refine ⟨_, rfl, ?_⟩
  rw [va_up_ne _ _ (show (5 : Nat) ≠ 9 by decide), va_up_ne _ _ (show (5 : Nat) ≠ 8 by decide), va_up_ne _ _ (show (5 : Nat) ≠ 7 by decide), va_up_ne _ _ (show (5 : Nat) ≠ 6 by decide), va_up_ne _ _ (show (5 : Nat) ≠ 4 by decide), va_up_self, va_up_ne _ _ (show (5 : Nat) ≠ 3 by decide), va_up_ne _ _ (show (5 : Nat) ≠ 2 by decide), va_up_ne _ _ (show (5 : Nat) ≠ 1 by decide)]
theorem person_D {a0 a1 a2 a3 a4 : Int32} (h : RSL I ri (si 384)) (hd : RDF I ri (si 384)) : DV (g_X11_person a0 a1 a2 a3 a4 I J ri rj rq) (g_X12_person a0 a1 a2 a3 a4 U V si sj sq) := by
  obtain ⟨_, ⟨_, ⟨p0, p4⟩, _⟩, ⟨_, e1, _, _⟩, _⟩ := h
  have e5 := hd.1
  have k5 : (5 : Int32).toNatClampNeg = 5 := by decide
  have k40 : (40 : Int32).toInt = 40 := by decide
  unfold DV
  rw [g_X11_person_e, g_X12_person_e]
  simp only [↓ap1_n, between_b, isIn_b, isRing_c, isRing_m, bnI_mk, ← e1, k5, g_X11_person_K54, g_X11_person_K55_2, g_X11_person_K77_2, g_X11_person_K77, g_X12_person_K61]
  by_cases q1 : bt a0 0 9 = 0
  · simp only [if_pos q1]; exact hd
  · by_cases q2 : bt a1 0 99 = 0
    · simp only [if_neg q1, if_pos q2]; exact hd
    · by_cases q3 : bt a2 0 7 = 0
      · simp only [if_neg q1, if_neg q2, if_pos q3]; exact hd
      · by_cases q4 : bt a3 0 (I 64 - 1) = 0
        · simp only [if_neg q1, if_neg q2, if_neg q3, if_pos q4]; exact hd
        · by_cases q5 : bt a4 0 100 = 0
          · simp only [if_neg q1, if_neg q2, if_neg q3, if_neg q4, if_pos q5]; exact hd
          · simp only [if_neg q1, if_neg q2, if_neg q3, if_neg q4, if_neg q5, g_X11_person_K55, g_X11_person_K77, ↓ap1_n]
            by_cases d : I 0 < 40
            · have d1 := Int32.lt_iff_toInt_lt.mp d
              have d2 : ¬ si 384 5 = 40 := fun y => by rw [e5, y] at d1; omega
              have n39 : (si 384 5).toInt ≤ 39 := by rw [e5, k40] at d1; omega
              have z := clampE (si 384 5)
              obtain ⟨R, eR, hR⟩ := addPerson_v (a0 := a0) (a1 := a1) (a2 := a2) (a3 := a3) (a4 := a4) (J := J) (ri := ri) (rj := rj) (rq := rq) d
              rw [if_pos d, if_neg d2, eR, bnI_mk]
              rw [ixp (c := si 384 5) (k := 0) 0 (by decide) (by decide) p0 n39, ixp (c := si 384 5) (k := 1) 1 (by decide) (by decide) p0 n39, ixp (c := si 384 5) (k := 2) 2 (by decide) (by decide) p0 n39, ixp (c := si 384 5) (k := 3) 3 (by decide) (by decide) p0 n39, ixp (c := si 384 5) (k := 4) 4 (by decide) (by decide) p0 n39, ixp (c := si 384 5) (k := 7) 7 (by decide) (by decide) p0 n39, ixp (c := si 384 5) (k := 8) 8 (by decide) (by decide) p0 n39]
              simp only [va_up_self, up_up]
              generalize hN : (si 384 5).toNatClampNeg = N at z
              refine ⟨?_, fun p hp => ?_⟩
              · rw [va_up_self, upd_s, e5]
              · rw [hR, e5, hN, upd_n _ _ (show 740 + 12 * p + 3 ≠ 5 by omega)]
                by_cases s : p = N
                · rw [s, upd_s, upd_n _ _ (show 740 + 12 * N + 3 ≠ 740 + 12 * N + 8 by omega), upd_n _ _ (show 740 + 12 * N + 3 ≠ 740 + 12 * N + 7 by omega), upd_n _ _ (show 740 + 12 * N + 3 ≠ 740 + 12 * N + 4 by omega), upd_s]
                · rw [upd_n _ _ s, upd_n _ _ (show 740 + 12 * p + 3 ≠ 740 + 12 * N + 8 by omega), upd_n _ _ (show 740 + 12 * p + 3 ≠ 740 + 12 * N + 7 by omega), upd_n _ _ (show 740 + 12 * p + 3 ≠ 740 + 12 * N + 4 by omega), upd_n _ _ (show 740 + 12 * p + 3 ≠ 740 + 12 * N + 3 by omega), upd_n _ _ (show 740 + 12 * p + 3 ≠ 740 + 12 * N + 2 by omega), upd_n _ _ (show 740 + 12 * p + 3 ≠ 740 + 12 * N + 1 by omega), upd_n _ _ (show 740 + 12 * p + 3 ≠ 740 + 12 * N + 0 by omega)]
                  exact hd.2 p hp
            · have d2 : si 384 5 = 40 := by
                have y := Int32.le_iff_toInt_le.mp (Int32.not_lt.mp d)
                rw [e5, k40] at y
                exact Int32.toInt_inj.mp (by rw [k40]; omega)
              rw [if_neg d, if_pos d2]
              exact hd
/-- what lies beyond the counts -/
theorem RDF_cg {I1 : Nat → Int32} {r1 : Nat → Nat → Int32} {A A1 : Nat → Int32} (h : RDF I ri A) (h0 : I1 0 = I 0) (h5 : ∀ p, p < 40 → r1 5 p = ri 5 p) (a5 : A1 5 = A 5) (aP : ∀ p, p < 40 → A1 (740 + 12 * p + 3) = A (740 + 12 * p + 3)) : RDF I1 r1 A1 := ⟨h0.trans (h.1.trans a5.symm), fun p hp => by rw [h5 p hp, aP p hp]; exact h.2 p hp⟩
end PU19
