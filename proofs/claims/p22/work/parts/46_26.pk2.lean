/-! ===== pure: who is so by THE LAW, both sides (behind pk1) ===== -/
section PK2
variable {I : Nat → Int32} {J : Nat → Int64} {ri : Nat → Nat → Int32} {rj : Nat → Nat → Int64} {rq : Nat → Nat → Option Nat}
variable {U : Nat → Int32} {V : Nat → Int64} {si : Nat → Nat → Int32} {sj : Nat → Nat → Int64} {sq : Nat → Nat → Option Nat}
variable {tI : Nat → Nat → Int32} {tR : Nat → Nat → Nat → Int32}
/-- PERSONS of both sides: KIN, AGE, CRAFT, PLACE, what they SEND, how they vote -/
def FLK (I : Nat → Int32) (ri : Nat → Nat → Int32) (A : Nat → Int32) : Prop := I 0 = A 5 ∧ (0 ≤ (A 5).toInt ∧ (A 5).toInt ≤ 40) ∧ ∀ p, p < 40 → (ri 1 p = A (740 + 12 * p) ∧ ri 2 p = A (740 + 12 * p + 1) ∧ ri 3 p = A (740 + 12 * p + 2) ∧ ri 5 p = A (740 + 12 * p + 3) ∧ ri 4 p = A (740 + 12 * p + 4) ∧ ri 9 p = A (740 + 12 * p + 8)) ∧ (0 ≤ (A (740 + 12 * p)).toInt ∧ (A (740 + 12 * p)).toInt ≤ 9) ∧ (0 ≤ (A (740 + 12 * p + 1)).toInt ∧ (A (740 + 12 * p + 1)).toInt ≤ 99) ∧ (0 ≤ (A (740 + 12 * p + 2)).toInt ∧ (A (740 + 12 * p + 2)).toInt ≤ 7) ∧ (0 ≤ (A (740 + 12 * p + 3)).toInt ∧ (A (740 + 12 * p + 3)).toInt ≤ 300) ∧ ((A (740 + 12 * p + 3)).toInt < 5 ∨ 100 ≤ (A (740 + 12 * p + 3)).toInt)
/-- what a NAME is of PERSON p -/
def nmv (A : Nat → Int32) (p : Nat) (mo un : Int32) (j : Nat) : Int32 := if j = 0 then A (740 + 12 * p + 1) else if j = 1 then A (740 + 12 * p) else if j = 2 then A (740 + 12 * p + 2) else if j = 3 then A (740 + 12 * p + 3) else if j = 4 then mo else un
theorem pa0 {x : Int32} {p : Nat} (hx : x.toInt = (p : Int)) (hp : p < 40) : g_X12_personAt_c0 x U V si sj sq = (si 384 (740 + 12 * p), U, V, si, sj, sq) := by
  rw [g_X12_personAt_c0_e]
  simp only [↓ap1_n]
  rw [ixp (c := x) (k := 0) 0 (by decide) (by decide) (by omega) (by omega), at_n hx, Nat.add_zero]
theorem pa1 {x : Int32} {p : Nat} (hx : x.toInt = (p : Int)) (hp : p < 40) : g_X12_personAt_c1 x U V si sj sq = (si 384 (740 + 12 * p + 1), U, V, si, sj, sq) := by
  rw [g_X12_personAt_c1_e]
  simp only [↓ap1_n]
  rw [ixp (c := x) (k := 1) 1 (by decide) (by decide) (by omega) (by omega), at_n hx]
theorem pa2 {x : Int32} {p : Nat} (hx : x.toInt = (p : Int)) (hp : p < 40) : g_X12_personAt_c2 x U V si sj sq = (si 384 (740 + 12 * p + 2), U, V, si, sj, sq) := by
  rw [g_X12_personAt_c2_e]
  simp only [↓ap1_n]
  rw [ixp (c := x) (k := 2) 2 (by decide) (by decide) (by omega) (by omega), at_n hx]
theorem pa3 {x : Int32} {p : Nat} (hx : x.toInt = (p : Int)) (hp : p < 40) : g_X12_personAt_c3 x U V si sj sq = (si 384 (740 + 12 * p + 3), U, V, si, sj, sq) := by
  rw [g_X12_personAt_c3_e]
  simp only [↓ap1_n]
  rw [ixp (c := x) (k := 3) 3 (by decide) (by decide) (by omega) (by omega), at_n hx]
theorem pa8 {x : Int32} {p : Nat} (hx : x.toInt = (p : Int)) (hp : p < 40) : g_X12_personAt_c8 x U V si sj sq = (si 384 (740 + 12 * p + 8), U, V, si, sj, sq) := by
  rw [g_X12_personAt_c8_e]
  simp only [↓ap1_n]
  rw [ixp (c := x) (k := 8) 8 (by decide) (by decide) (by omega) (by omega), at_n hx]
/-- NAMES of the reference -/
theorem named_v {y mo un x : Int32} {p j : Nat} (hy : y.toInt = (p : Int)) (hp : p < 40) (hx : x.toInt = (j : Int)) (hj : j < 6) : g_X12_named y x mo un U V si sj sq = (nmv (si 384) p mo un j, U, V, si, sj, sq) := by
  have e : ∀ k : Nat, j = k → ∀ z : Int32, z.toInt = (k : Int) → x = z := fun k hk z hz => Int32.toInt_inj.mp (by rw [hx, hz, hk])
  have n : ∀ k : Nat, j ≠ k → ∀ z : Int32, z.toInt = (k : Int) → ¬ x = z := fun k hk z hz q => by
    have := congrArg Int32.toInt q
    rw [hx, hz] at this
    omega
  unfold nmv
  rw [g_X12_named_e]
  by_cases c0 : j = 0
  · rw [if_pos (e 0 c0 0 (by decide)), if_pos c0, bn_n (pa1 hy hp)]
  rw [if_neg (n 0 c0 0 (by decide)), if_neg c0]
  by_cases c1 : j = 1
  · rw [if_pos (e 1 c1 1 (by decide)), if_pos c1, bn_n (pa0 hy hp)]
  rw [if_neg (n 1 c1 1 (by decide)), if_neg c1]
  by_cases c2 : j = 2
  · rw [if_pos (e 2 c2 2 (by decide)), if_pos c2, bn_n (pa2 hy hp)]
  rw [if_neg (n 2 c2 2 (by decide)), if_neg c2]
  by_cases c3 : j = 3
  · rw [if_pos (e 3 c3 3 (by decide)), if_pos c3, bn_n (pa3 hy hp)]
  rw [if_neg (n 3 c3 3 (by decide)), if_neg c3]
  by_cases c4 : j = 4
  · rw [if_pos (e 4 c4 4 (by decide)), if_pos c4]
  rw [if_neg (n 4 c4 4 (by decide)), if_neg c4]
/-- NAMES of the class -/
theorem val_v {y mo : Int32} {p : Nat} (hy : y.toInt = (p : Int)) : g_X0_valueOf y 12 mo I J ri rj rq = (ri 2 p, I, J, ri, rj, rq) ∧ g_X0_valueOf y 13 mo I J ri rj rq = (ri 1 p, I, J, ri, rj, rq) ∧ g_X0_valueOf y 14 mo I J ri rj rq = (ri 3 p, I, J, ri, rj, rq) ∧ g_X0_valueOf y 15 mo I J ri rj rq = (ri 5 p, I, J, ri, rj, rq) ∧ g_X0_valueOf y 16 mo I J ri rj rq = (mo, I, J, ri, rj, rq) ∧ g_X0_valueOf y 17 mo I J ri rj rq = (0, I, J, ri, rj, rq) := by
  have hp := at_n hy
  refine ⟨?_, ?_, ?_, ?_, ?_, ?_⟩
  · rw [g_X0_valueOf_e, if_pos (show (12 : Int32) = 12 from rfl)]
    simp only [↓ap1_n]
    rw [hp]
  · rw [g_X0_valueOf_e, if_neg (show ¬ (13 : Int32) = 12 by decide), if_pos (show (13 : Int32) = 13 from rfl)]
    simp only [↓ap1_n]
    rw [hp]
  · rw [g_X0_valueOf_e, if_neg (show ¬ (14 : Int32) = 12 by decide), if_neg (show ¬ (14 : Int32) = 13 by decide), if_pos (show (14 : Int32) = 14 from rfl)]
    simp only [↓ap1_n]
    rw [hp]
  · rw [g_X0_valueOf_e, if_neg (show ¬ (15 : Int32) = 12 by decide), if_neg (show ¬ (15 : Int32) = 13 by decide), if_neg (show ¬ (15 : Int32) = 14 by decide), if_pos (show (15 : Int32) = 15 from rfl)]
    simp only [↓ap1_n]
    rw [hp]
  · rw [g_X0_valueOf_e, if_neg (show ¬ (16 : Int32) = 12 by decide), if_neg (show ¬ (16 : Int32) = 13 by decide), if_neg (show ¬ (16 : Int32) = 14 by decide), if_neg (show ¬ (16 : Int32) = 15 by decide), if_pos (show (16 : Int32) = 16 from rfl)]
  · rw [g_X0_valueOf_e, if_neg (show ¬ (17 : Int32) = 12 by decide), if_neg (show ¬ (17 : Int32) = 13 by decide), if_neg (show ¬ (17 : Int32) = 14 by decide), if_neg (show ¬ (17 : Int32) = 15 by decide), if_neg (show ¬ (17 : Int32) = 16 by decide)]
theorem nameAll_v {y mo un : Int32} {p : Nat} {A : Nat → Int32} (hy : y.toInt = (p : Int)) (h1 : ri 1 p = A (740 + 12 * p)) (h2 : ri 2 p = A (740 + 12 * p + 1)) (h3 : ri 3 p = A (740 + 12 * p + 2)) (h5 : ri 5 p = A (740 + 12 * p + 3)) : ∃ F : Nat → Int32, g_X3_nameAll y mo un I J ri rj rq = (I, J, va_up ri 102 F, rj, rq) ∧ ∀ j, j < 6 → F j = nmv A p mo un j := by
  have n1 : ((17 - ((12 : Int32)).toInt).toNat + 1) = 0 + 1 + 1 + 1 + 1 + 1 + 1 := by decide
  have s13 : (12 : Int32) + Int32.ofInt 1 = 13 := by decide
  have s14 : (13 : Int32) + Int32.ofInt 1 = 14 := by decide
  have s15 : (14 : Int32) + Int32.ofInt 1 = 15 := by decide
  have s16 : (15 : Int32) + Int32.ofInt 1 = 16 := by decide
  have s17 : (16 : Int32) + Int32.ofInt 1 = 17 := by decide
  have i0 : ((12 : Int32) - 12).toNatClampNeg = 0 := by decide
  have i1 : ((13 : Int32) - 12).toNatClampNeg = 1 := by decide
  have i2 : ((14 : Int32) - 12).toNatClampNeg = 2 := by decide
  have i3 : ((15 : Int32) - 12).toNatClampNeg = 3 := by decide
  have i4 : ((16 : Int32) - 12).toNatClampNeg = 4 := by decide
  have i5 : (5 : Int32).toNatClampNeg = 5 := by decide
  have o : ∀ (F : Nat → Int32) (t : Nat), t ≠ 102 → va_up ri 102 F t = ri t := fun F t ht => va_up_ne _ _ ht
  have v2 := fun R => val_v (I := I) (J := J) (ri := R) (rj := rj) (rq := rq) (y := y) (mo := mo) hy
  rw [g_X3_nameAll_e, n1, g_X3_nameAll_L4_e, if_neg (show ¬ (17 : Int32) ≤ 12 by decide)]
  simp only [↓ap1_n]
  rw [bn_n (v2 ri).1, i0, s13, g_X3_nameAll_L4_e, if_neg (show ¬ (17 : Int32) ≤ 13 by decide)]
  simp only [↓ap1_n]
  rw [bn_n (v2 _).2.1, va_up_self, up_up, i1, s14, g_X3_nameAll_L4_e, if_neg (show ¬ (17 : Int32) ≤ 14 by decide)]
  simp only [↓ap1_n]
  rw [bn_n (v2 _).2.2.1, va_up_self, up_up, i2, s15, g_X3_nameAll_L4_e, if_neg (show ¬ (17 : Int32) ≤ 15 by decide)]
  simp only [↓ap1_n]
  rw [bn_n (v2 _).2.2.2.1, va_up_self, up_up, i3, s16, g_X3_nameAll_L4_e, if_neg (show ¬ (17 : Int32) ≤ 16 by decide)]
  simp only [↓ap1_n]
  rw [bn_n (v2 _).2.2.2.2.1, va_up_self, up_up, i4, s17, g_X3_nameAll_L4_e, if_pos (show (17 : Int32) ≤ 17 by decide)]
  simp only [↓ap1_n]
  rw [va_up_self, up_up, i5, o _ 1 (by decide), o _ 3 (by decide), o _ 5 (by decide), h1, h2, h3, h5]
  refine ⟨_, rfl, fun j hj => ?_⟩
  unfold nmv
  by_cases c0 : j = 0
  · rw [if_pos c0, c0, upd_n _ _ (by decide), upd_n _ _ (by decide), upd_n _ _ (by decide), upd_n _ _ (by decide), upd_n _ _ (by decide), upd_s]
  rw [if_neg c0]
  by_cases c1 : j = 1
  · rw [if_pos c1, c1, upd_n _ _ (by decide), upd_n _ _ (by decide), upd_n _ _ (by decide), upd_n _ _ (by decide), upd_s]
  rw [if_neg c1]
  by_cases c2 : j = 2
  · rw [if_pos c2, c2, upd_n _ _ (by decide), upd_n _ _ (by decide), upd_n _ _ (by decide), upd_s]
  rw [if_neg c2]
  by_cases c3 : j = 3
  · rw [if_pos c3, c3, upd_n _ _ (by decide), upd_n _ _ (by decide), upd_s]
  rw [if_neg c3]
  by_cases c4 : j = 4
  · rw [if_pos c4, c4, upd_n _ _ (by decide), upd_s]
  rw [if_neg c4, show j = 5 by omega, upd_s]
theorem tft_v {a mo : Int32} (h0 : 0 ≤ a.toInt) (h8 : a.toInt ≤ 8) (hT : TXS I rq tI tR (si 384)) (hF : FCS I ri (si 384)) : ∃ (o : Option Nat) (y : Int32), g_X3_textFor tI tR a mo I J ri rj rq = (o, I, J, ri, rj, rq) ∧ g_X12_textFor (srC a) mo U V si sj sq = (y, U, V, si, sj, sq) ∧ ((o = none ∧ y = -1) ∨ ∃ (w t : Nat) (M : CLs), o = some w ∧ y.toInt = (t : Int) ∧ t ≤ 9 ∧ TEX1 tI tR (si 384) w t M) := by
  have n7 : (7 : Int32).toNatClampNeg = 7 := by decide
  have hF' := hF
  obtain ⟨f0, ⟨f1, f2⟩, _⟩ := hF'
  rw [g_X3_textFor_e, g_X12_textFor_e]
  simp only [↓ap1_n, n7]
  rw [f0]
  have hx : (si 384 7 - 1).toInt = (si 384 7).toInt - 1 := i_sub rfl (show (1 : Int32).toInt = 1 by decide) (by omega) (by omega)
  obtain ⟨o, y, e1, e2, e3⟩ := tf_sim (I := I) (J := J) (ri := ri) (rj := rj) (rq := rq) (U := U) (V := V) (si := si) (sj := sj) (sq := sq) (tI := tI) (tR := tR) (a := a) (mo := mo) h0 h8 hT hF (((si 384 7 - 1).toInt - (-1)).toNat + 1) (si 384 7 - 1) (by rw [hx]; omega) (by rw [hx]; omega) (by rw [hx]; omega)
  refine ⟨o, y, e1, e2, ?_⟩
  rcases e3 with ⟨z1, z2⟩ | ⟨w, t, M, z1, z2, z3, z4, _⟩
  · exact Or.inl ⟨z1, z2⟩
  · exact Or.inr ⟨w, t, M, z1, z2, z3, z4⟩
/-- the first EITHER that is so for a PERSON, whatever waits in the rows on the way -/
def FSV (tI : Nat → Nat → Int32) (tR : Nat → Nat → Nat → Int32) (I : Nat → Int32) (J : Nat → Int64) (ri : Nat → Nat → Int32) (rj : Nat → Nat → Int64) (rq : Nat → Nat → Option Nat) (U : Nat → Int32) (V : Nat → Int64) (si : Nat → Nat → Int32) (sj : Nat → Nat → Int64) (sq : Nat → Nat → Option Nat) (a y mo un : Int32) (o : Option Nat) (v : Int32) : Prop := (v = -1 ∨ 0 ≤ v.toInt) ∧ (∀ (h : Nat → Int32) (g : Nat → Int64), ∃ (z : Int32) (h' : Nat → Int32) (g' : Nat → Int64), g_X12_textFor (srC a) mo U V (va_up si 405 h) (va_up sj 404 g) sq = (z, U, V, va_up si 405 h, va_up sj 404 g, sq) ∧ (z < 0 ↔ o = none) ∧ g_X12_firstSo (srC a) y mo un U V (va_up si 405 h) (va_up sj 404 g) sq = (v, U, V, va_up si 405 h', va_up sj 404 g', sq)) ∧ (o = none → v = -1) ∧ ∀ w, o = some w → ∀ R : Nat → Nat → Int32, (∀ t, t ∈ [1, 2, 3, 5] → R t = ri t) → ∃ F f' : Nat → Int32, g_X3_nameAll y mo un I J R rj rq = (I, J, va_up R 102 F, rj, rq) ∧ g_X8_firstSo_102_103 tI tR w a I J (va_up R 102 F) rj rq = (v, I, J, va_up (va_up R 102 F) 103 f', rj, rq)
theorem nm_b {A : Nat → Int32} {p : Nat} {mo un : Int32} (h1 : vb9 (A (740 + 12 * p))) (h2 : vb9 (A (740 + 12 * p + 1))) (h3 : vb9 (A (740 + 12 * p + 2))) (h4 : vb9 (A (740 + 12 * p + 3))) (h5 : vb9 mo) (h6 : vb9 un) : ∀ j, j < 6 → vb9 (nmv A p mo un j) := fun j hj => by
  unfold nmv
  split
  · exact h2
  split
  · exact h1
  split
  · exact h3
  split
  · exact h4
  split
  · exact h5
  · exact h6
theorem fsv_v {a y mo un : Int32} {p : Nat} (h0 : 0 ≤ a.toInt) (h4 : a.toInt < 4) (hy : y.toInt = (p : Int)) (hp : p < 40) (hm : vb9 mo) (hu : vb9 un) (hT : TXS I rq tI tR (si 384)) (hF : FCS I ri (si 384)) (hK : FLK I ri (si 384)) : ∃ (o : Option Nat) (v : Int32), g_X3_textFor tI tR a mo I J ri rj rq = (o, I, J, ri, rj, rq) ∧ FSV tI tR I J ri rj rq U V si sj sq a y mo un o v := by
  have k0 : (0 : Int32).toInt = 0 := by decide
  have s384 : ∀ h : Nat → Int32, va_up si 405 h 384 = si 384 := fun h => va_up_ne _ _ (by decide)
  obtain ⟨_, _, kp⟩ := hK
  obtain ⟨⟨p1, p2, p3, p4, _⟩, b1, b2, b3, b4⟩ := kp p hp
  have hNb := nm_b (A := si 384) (p := p) (mo := mo) (un := un) ⟨by omega, by omega⟩ ⟨by omega, by omega⟩ ⟨by omega, by omega⟩ ⟨by omega, by omega⟩ hm hu
  have hN2 : ∀ (x : Int32) (j : Nat) (h : Nat → Int32) (g : Nat → Int64), x.toInt = (j : Int) → j < 6 → g_X12_named y x mo un U V (va_up si 405 h) (va_up sj 404 g) sq = (nmv (si 384) p mo un j, U, V, va_up si 405 h, va_up sj 404 g, sq) := fun x j h g hx hj => by
    have := named_v (U := U) (V := V) (si := va_up si 405 h) (sj := va_up sj 404 g) (sq := sq) (mo := mo) (un := un) hy hp hx hj
    rw [s384] at this
    exact this
  have tf : ∀ (h : Nat → Int32) (g : Nat → Int64), ∃ (o : Option Nat) (z : Int32), g_X3_textFor tI tR a mo I J ri rj rq = (o, I, J, ri, rj, rq) ∧ g_X12_textFor (srC a) mo U V (va_up si 405 h) (va_up sj 404 g) sq = (z, U, V, va_up si 405 h, va_up sj 404 g, sq) ∧ ((o = none ∧ z = -1) ∨ ∃ (w t : Nat) (M : CLs), o = some w ∧ z.toInt = (t : Int) ∧ t ≤ 9 ∧ TEX1 tI tR (si 384) w t M) := fun h g => by
    have := tft_v (I := I) (J := J) (ri := ri) (rj := rj) (rq := rq) (U := U) (V := V) (si := va_up si 405 h) (sj := va_up sj 404 g) (sq := sq) (tI := tI) (tR := tR) (a := a) (mo := mo) h0 (by omega) (by rw [s384]; exact hT) (by rw [s384]; exact hF)
    rw [s384] at this
    exact this
  obtain ⟨o, z0, t1, t2, t3⟩ := tf (fun _ => 0) (fun _ => 0)
  rcases t3 with ⟨e1, e2⟩ | ⟨w, t, M, e1, e2, e3, e4⟩
  · refine ⟨o, -1, t1, Or.inl rfl, fun h g => ?_, ⟨fun _ => rfl, fun w q => by rw [e1] at q; cases q⟩⟩
    obtain ⟨o2, z, u1, u2, u3⟩ := tf h g
    have eo : o2 = o := (Prod.mk.inj (u1.symm.trans t1)).1
    rcases u3 with ⟨y1, y2⟩ | ⟨w, t, M, y1, _⟩
    · refine ⟨z, h, g, u2, ⟨fun _ => e1, fun _ => by rw [y2]; decide⟩, ?_⟩
      rw [g_X12_firstSo_e, bn_n u2, g_X12_firstSo_L11_e, if_pos (show z < 0 by rw [y2]; decide), g_X12_firstSo_K74_e]
    · rw [eo, e1] at y1
      cases y1
  · obtain ⟨v, v1, v2, v3⟩ := so_un (I := I) (J := J) (rj := rj) (rq := rq) (U := U) (V := V) (si := si) (sj := sj) (sq := sq) (tI := tI) (tR := tR) (a := a) (p := y) (mo := mo) (un := un) e2 e3 e4 h0 h4 hNb hN2
    refine ⟨o, v, t1, v1, fun h g => ?_, ⟨fun q => (by rw [e1] at q; cases q), fun w2 q R hR => ?_⟩⟩
    · obtain ⟨o2, z, u1, u2, u3⟩ := tf h g
      have eo : o2 = o := (Prod.mk.inj (u1.symm.trans t1)).1
      rcases u3 with ⟨y1, y2⟩ | ⟨w2, t', M', y1, y2, y3, y4⟩
      · rw [eo, e1] at y1
        cases y1
      · have ew : w2 = w := by
          rw [eo, e1] at y1
          exact (Option.some.inj y1).symm
        rw [ew] at y4
        obtain ⟨v', w1, w2, w3⟩ := so_un (I := I) (J := J) (rj := rj) (rq := rq) (U := U) (V := V) (si := si) (sj := sj) (sq := sq) (tI := tI) (tR := tR) (a := a) (p := y) (mo := mo) (un := un) y2 y3 y4 h0 h4 hNb hN2
        obtain ⟨f1, x1⟩ := v2 (fun _ => nmv (si 384) p mo un) (fun _ _ => rfl)
        obtain ⟨f2, x2⟩ := w2 (fun _ => nmv (si 384) p mo un) (fun _ _ => rfl)
        have ev : v' = v := (Prod.mk.inj (x2.symm.trans x1)).1
        obtain ⟨h', g', x3⟩ := w3 h g
        rw [ev] at x3
        refine ⟨z, h', g', u2, ⟨fun q => ?_, fun q => ?_⟩, ?_⟩
        · have := Int32.lt_iff_toInt_lt.mp q
          rw [k0] at this
          omega
        · rw [e1] at q
          cases q
        · rw [g_X12_firstSo_e, bn_n u2]
          exact x3
    · have ew : w2 = w := by
        rw [e1] at q
        exact (Option.some.inj q).symm
      rw [ew]
      obtain ⟨F, n1, n2⟩ := nameAll_v (I := I) (J := J) (ri := R) (rj := rj) (rq := rq) (mo := mo) (un := un) (A := si 384) hy (by rw [hR 1 (by decide)]; exact p1) (by rw [hR 2 (by decide)]; exact p2) (by rw [hR 3 (by decide)]; exact p3) (by rw [hR 5 (by decide)]; exact p4)
      obtain ⟨f', x1⟩ := v2 (va_up R 102 F) (fun j hj => by rw [va_up_self]; exact n2 j hj)
      exact ⟨F, f', n1, x1⟩
/-- people, may, vote of the reference -/
theorem isFor_v {a y mo : Int32} {o : Option Nat} {v : Int32} (h : FSV tI tR I J ri rj rq U V si sj sq a y mo 0 o v) : ∀ (h : Nat → Int32) (g : Nat → Int64), ∃ (h' : Nat → Int32) (g' : Nat → Int64), g_X12_isFor (srC a) y mo U V (va_up si 405 h) (va_up sj 404 g) sq = ((if o = none ∨ v ≠ -1 then 1 else 0), U, V, va_up si 405 h', va_up sj 404 g', sq) := fun h' g' => by
  have k0 : (0 : Int32).toInt = 0 := by decide
  obtain ⟨v1, v2, v3, _⟩ := h
  obtain ⟨z, h2, g2, e1, e2, e3⟩ := v2 h' g'
  rw [g_X12_isFor_e, bn_n e1]
  by_cases q : z < 0
  · rw [if_pos q, if_pos (Or.inl (e2.mp q))]
    exact ⟨h', g', rfl⟩
  · rw [if_neg q, bn_n e3]
    by_cases c : v = -1
    · rw [if_pos (show v < 0 by rw [c]; decide), if_neg (show ¬ (o = none ∨ v ≠ -1) from fun y => by
        rcases y with y | y
        · exact q (e2.mpr y)
        · exact y c)]
      exact ⟨h2, g2, rfl⟩
    · have nv : ¬ v < 0 := fun y => by
        have := Int32.lt_iff_toInt_lt.mp y
        rw [k0] at this
        rcases v1 with v1 | v1
        · exact c v1
        · omega
      rw [if_neg nv, if_pos (Or.inr c)]
      exact ⟨h2, g2, rfl⟩
/-- people, may, vote of the class -/
theorem who_v {a mo : Int32} {asked : Int64} (h0 : 0 ≤ a.toInt) (h4 : a.toInt < 4) (hm : vb9 mo) (hT : TXS I rq tI tR (si 384)) (hF : FCS I ri (si 384)) (hK : FLK I ri (si 384)) : ∃ (so : Int64) (B : Nat → Bool) (R : Nat → Nat → Int32), g_X3_whoIsSo tI tR a mo asked I J ri rj rq = (so, I, J, R, rj, rq) ∧ (∀ t, t ≠ 102 → t ≠ 103 → R t = ri t) ∧ (∀ p, p < (I 0).toNatClampNeg → hb so p = (hb asked p && B p)) ∧ (∀ p, p < 64 → hb so p = true → hb asked p = true) ∧ ∀ (y : Int32) (p : Nat), y.toInt = (p : Int) → p < 40 → ∀ (h : Nat → Int32) (g : Nat → Int64), ∃ (h' : Nat → Int32) (g' : Nat → Int64), g_X12_isFor (srC a) y mo U V (va_up si 405 h) (va_up sj 404 g) sq = ((if B p = true then 1 else 0), U, V, va_up si 405 h', va_up sj 404 g', sq) := by
  have k0 : (0 : Int32).toInt = 0 := by decide
  have nI : ∀ p : Nat, p < 40 → ∃ y : Int32, y.toInt = (p : Int) := fun p hp => ⟨Int32.ofNat p, Int32.toInt_ofNat_of_lt (by omega)⟩
  have vb0 : vb9 0 := ⟨by decide, by decide⟩
  have one := fun (y : Int32) (p : Nat) (hy : y.toInt = (p : Int)) (hp : p < 40) => fsv_v (I := I) (J := J) (ri := ri) (rj := rj) (rq := rq) (U := U) (V := V) (si := si) (sj := sj) (sq := sq) (tI := tI) (tR := tR) (a := a) (mo := mo) (un := 0) h0 h4 hy hp hm vb0 hT hF hK
  obtain ⟨o, z0, t1, _, _⟩ := tft_v (I := I) (J := J) (ri := ri) (rj := rj) (rq := rq) (U := U) (V := V) (si := si) (sj := sj) (sq := sq) (tI := tI) (tR := tR) (a := a) (mo := mo) h0 (by omega) hT hF
  -- one answer for each PERSON
  have ex : ∀ p : Nat, ∃ v : Int32, p < 40 → ∀ y : Int32, y.toInt = (p : Int) → FSV tI tR I J ri rj rq U V si sj sq a y mo 0 o v := fun p => by
    by_cases hp : p < 40
    · obtain ⟨y, hy⟩ := nI p hp
      obtain ⟨o2, v, e1, e2⟩ := one y p hy hp
      have eo : o2 = o := (Prod.mk.inj (e1.symm.trans t1)).1
      rw [eo] at e2
      exact ⟨v, fun _ y2 hy2 => by rw [show y2 = y from Int32.toInt_inj.mp (hy2.trans hy.symm)]; exact e2⟩
    · exact ⟨0, fun h => absurd h hp⟩
  obtain ⟨vv, hvv⟩ := Classical.axiomOfChoice ex
  have hK' := hK
  obtain ⟨i0, ⟨n0, n40⟩, _⟩ := hK'
  rw [g_X3_whoIsSo_e, bn_n t1]
  cases o with
  | none =>
    rw [opt1_0]
    refine ⟨asked, fun _ => true, ri, rfl, fun _ _ _ => rfl, fun p _ => by rw [Bool.and_true], fun _ _ h => h, fun y p hy hp h g => ?_⟩
    obtain ⟨h', g', e⟩ := isFor_v (hvv p hp y hy) h g
    rw [if_pos (Or.inl rfl)] at e
    exact ⟨h', g', by rw [if_pos rfl]; exact e⟩
  | some w =>
    rw [opt1_s]
    have i0n : (I 0).toInt = (si 384 5).toInt := congrArg Int32.toInt i0
    have go : ∀ (n : Nat) (s : Int64) (x : Int32) (q : Nat) (R : Nat → Nat → Int32), x.toInt = (q : Int) → q ≤ (I 0).toNatClampNeg → 40 - q < n → (∀ t, t ≠ 102 → t ≠ 103 → R t = ri t) → (∀ p, p < q → hb s p = (hb asked p && decide (vv p ≠ -1))) → (∀ p, q ≤ p → p < 64 → hb s p = false) → ∃ (so : Int64) (R2 : Nat → Nat → Int32), g_X3_whoIsSo_L22 a mo asked I J rj rq tI tR w n s x R = (so, I, J, R2, rj, rq) ∧ (∀ t, t ≠ 102 → t ≠ 103 → R2 t = ri t) ∧ (∀ p, p < (I 0).toNatClampNeg → hb so p = (hb asked p && decide (vv p ≠ -1))) ∧ ∀ p, (I 0).toNatClampNeg ≤ p → p < 64 → hb so p = false := by
      have zI := clampE (I 0)
      intro n
      induction n with
      | zero => intro _ _ _ _ _ _ h; exact absurd h (Nat.not_lt_zero _)
      | succ n ih =>
        intro s x q R hx hq hn hR hs hz
        rw [g_X3_whoIsSo_L22_e]
        simp only [↓ap1_n]
        by_cases c : I 0 ≤ x
        · have c1 := Int32.le_iff_toInt_le.mp c
          have eq : q = (I 0).toNatClampNeg := by omega
          rw [if_pos c]
          exact ⟨s, R, rfl, hR, by rw [← eq]; exact hs, by rw [← eq]; exact hz⟩
        · have c1 := Int32.lt_iff_toInt_lt.mp (Int32.not_le.mp c)
          have nx : (x + Int32.ofInt 1).toInt = ((q + 1 : Nat) : Int) := up_i hx (by omega)
          have q40 : q < 40 := by omega
          rw [if_neg c, hasBit_v (by omega) (by omega), at_n hx]
          have stepF : hb asked q = false → ∀ p, p < q + 1 → hb s p = (hb asked p && decide (vv p ≠ -1)) := fun hf p hp => by
            by_cases e : p = q
            · rw [e, hz q (Nat.le_refl _) (by omega), hf, Bool.false_and]
            · exact hs p (by omega)
          by_cases b : hb asked q = true
          · rw [if_pos b, if_neg (show ¬ (1 : Int32) = 0 by decide)]
            obtain ⟨v1, _, _, v4⟩ := hvv q q40 x hx
            obtain ⟨F, f', e1, e2⟩ := v4 w rfl R (fun t ht => hR t (by simp only [List.mem_cons, List.not_mem_nil, or_false] at ht; omega) (by simp only [List.mem_cons, List.not_mem_nil, or_false] at ht; omega))
            have hR2 : ∀ t, t ≠ 102 → t ≠ 103 → va_up (va_up R 102 F) 103 f' t = ri t := fun t h1 h2 => by rw [va_up_ne _ _ h2, va_up_ne _ _ h1]; exact hR t h1 h2
            rw [e1, bnV_mk, bn_n e2]
            by_cases d : vv q = -1
            · rw [if_pos d, g_X3_whoIsSo_K77_e]
              simp only [↓ap1_n]
              refine ih s _ (q + 1) _ nx (by omega) (by omega) hR2 (fun p hp => ?_) (fun p h1 h2 => hz p (by omega) h2)
              by_cases e : p = q
              · rw [e, hz q (Nat.le_refl _) (by omega), d]
                simp
              · exact hs p (by omega)
            · rw [if_neg d, g_X3_whoIsSo_K77_e]
              simp only [↓ap1_n]
              have hbo : ∀ j, j < 64 → hb (s ||| ((1 : Int64) <<< (x.toInt64 &&& 63))) j = (hb s j || decide (q = j)) := fun j hj => by
                rw [hb_or (by omega) (by omega) j hj, at_n hx]
              refine ih _ _ (q + 1) _ nx (by omega) (by omega) hR2 (fun p hp => ?_) (fun p h1 h2 => ?_)
              · rw [hbo p (by omega)]
                by_cases e : p = q
                · rw [e, b]
                  simp [d]
                · rw [hs p (by omega), decide_eq_false (show ¬ q = p from fun y => e y.symm), Bool.or_false]
              · rw [hbo p h2, hz p (by omega) h2, decide_eq_false (show ¬ q = p by omega)]
                rfl
          · have bf : hb asked q = false := by simpa using b
            rw [if_neg b, if_pos (show (0 : Int32) = 0 from rfl), g_X3_whoIsSo_K77_e]
            simp only [↓ap1_n]
            exact ih s _ (q + 1) R nx (by omega) (by omega) hR (stepF bf) (fun p h1 h2 => hz p (by omega) h2)
    obtain ⟨so, R2, e1, e2, e3, e4⟩ := go ((40 - ((0 : Int32)).toInt).toNat + 1) 0 0 0 ri k0 (Nat.zero_le _) (by rw [k0]; omega) (fun _ _ _ => rfl) (fun p hp => absurd hp (Nat.not_lt_zero _)) (fun p _ _ => hb_0 p)
    refine ⟨so, fun p => decide (vv p ≠ -1), R2, e1, e2, e3, fun p h1 h2 => ?_, fun y p hy hp h g => ?_⟩
    · by_cases c : p < (I 0).toNatClampNeg
      · rw [e3 p c] at h2
        exact (Bool.and_eq_true_iff.mp h2).1
      · rw [e4 p (by omega) h1] at h2
        cases h2
    · obtain ⟨h', g', e⟩ := isFor_v (hvv p hp y hy) h g
      refine ⟨h', g', ?_⟩
      rw [e]
      by_cases c : vv p = -1
      · rw [if_neg (show ¬ (some w = none ∨ vv p ≠ -1) from fun z => by
          rcases z with z | z
          · cases z
          · exact z c), if_neg (show ¬ decide (vv p ≠ -1) = true by simp [c])]
      · rw [if_pos (Or.inr c), if_pos (show decide (vv p ≠ -1) = true by simp [c])]
end PK2
