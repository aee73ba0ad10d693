/-! ===== pure: calls on PERSONS, LOTS and TITLES, both sides (behind pk5) ===== -/
section PK6
variable {I : Nat → Int32} {J : Nat → Int64} {ri : Nat → Nat → Int32} {rj : Nat → Nat → Int64} {rq : Nat → Nat → Option Nat}
variable {U : Nat → Int32} {V : Nat → Int64} {si : Nat → Nat → Int32} {sj : Nat → Nat → Int64} {sq : Nat → Nat → Option Nat}
variable {tI : Nat → Nat → Int32} {tR : Nat → Nat → Nat → Int32}
theorem lcx {β : Type} (I : Nat → Int32) (J : Nat → Int64) (rj : Nat → Nat → Int64) (rq : Nat → Nat → Option Nat) {r : Int32} {R : Nat → Nat → Int32} {k : Int32 → (Nat → Int32) → (Nat → Int64) → (Nat → Nat → Int32) → (Nat → Nat → Int64) → (Nat → Nat → Option Nat) → β} : bnI (r, I, J, R, rj, rq) k = k r I J R rj rq := of_eq_true (eq_self _)
theorem hb_z {s : Int64} (h : ∀ j, j < 64 → hb s j = false) : s = 0 := by
  have e : s.toBitVec = (0 : Int64).toBitVec := BitVec.eq_of_getLsbD_eq (fun i hi => by
    have a : s.toBitVec.getLsbD i = false := h i hi
    have b : (0 : Int64).toBitVec.getLsbD i = false := hb_0 i
    rw [a, b])
  exact Int64.toInt_inj.mp (congrArg BitVec.toInt e)
theorem sr_is {a : Int32} (h0 : 0 ≤ a.toInt) (h2 : a.toInt ≤ 2) : srC (1 + a) = 2 + a ∧ 0 ≤ (1 + a).toInt ∧ (1 + a).toInt < 4 := by
  by_cases c : a.toInt = 0
  · have e : a = 0 := i32_k c (by decide)
    subst e
    decide
  by_cases d : a.toInt = 1
  · have e : a = 1 := i32_k d (by decide)
    subst e
    decide
  · have e : a = 2 := i32_k (show a.toInt = 2 by omega) (by decide)
    subst e
    decide
theorem mo_b {x : Int32} (h : bt x 0 599 ≠ 0) : vb9 x := by
  have := bt_n h
  have k0 : (0 : Int32).toInt = 0 := by decide
  have k5 : (599 : Int32).toInt = 599 := by decide
  exact ⟨by omega, by omega⟩
/-- is -/
theorem is_v {a0 a1 a2 : Int32} (hT : TXS I rq tI tR (si 384)) (hF : FCS I ri (si 384)) (hK : FLK I ri (si 384)) : (g_X11_is tI tR a0 a1 a2 I J ri rj rq).1 = (g_X12_is a0 a1 a2 U V si sj sq).1 := by
  have k0 : (0 : Int32).toInt = 0 := by decide
  have k2 : (2 : Int32).toInt = 2 := by decide
  have hK' := hK
  obtain ⟨i0, ⟨n0, n40⟩, _⟩ := hK'
  rw [g_X11_is_e, g_X12_is_e]
  simp only [↓ap1_n, between_b, isIn_b]
  by_cases q1 : bt a0 0 2 = 0
  · rw [if_pos q1, if_pos q1]; rfl
  rw [if_neg q1, if_neg q1, bn_n isPerson_c, bn_n isPerson_m, ← i0]
  by_cases q2 : bt a1 0 (I 0 - 1) = 0
  · rw [if_pos q2, if_pos q2]; rfl
  rw [if_neg q2, if_neg q2, isMonth_c, isMonth_m]
  by_cases q3 : bt a2 0 599 = 0
  · rw [if_pos q3, if_pos q3]; rfl
  rw [if_neg q3, if_neg q3]
  have b0 := bt_n q1
  obtain ⟨s1, s2, s3⟩ := sr_is (a := a0) (by omega) (by omega)
  have b1 := bt_cell (n := I 0) (by rw [i0]; exact n0) (by rw [i0]; exact n40) q2
  have i0n : (I 0).toInt = (si 384 5).toInt := congrArg Int32.toInt i0
  obtain ⟨P, hP⟩ : ∃ P : Nat, a1.toInt = (P : Int) := ⟨a1.toInt.toNat, by omega⟩
  have zI := clampE (I 0)
  obtain ⟨so, B, R, e1, e2, e3, e4, e5⟩ := who_v (I := I) (J := J) (ri := ri) (rj := rj) (rq := rq) (U := U) (V := V) (si := si) (sj := sj) (sq := sq) (tI := tI) (tR := tR) (a := 1 + a0) (mo := a2) (asked := (1 : Int64) <<< (a1.toInt64 &&& 63)) s2 s3 (mo_b q3) hT hF hK
  obtain ⟨h', g', e6⟩ := e5 a1 P hP (by omega) (si 405) (sj 404)
  rw [up_id, up_id, s1] at e6
  rw [bn_n e1, bn_n e6]
  have o1 : ∀ j, j < 64 → hb ((1 : Int64) <<< (a1.toInt64 &&& 63)) j = decide (P = j) := fun j hj => by rw [hb_one (by omega) (by omega) j hj, at_n hP]
  have hp := e3 P (by omega)
  rw [o1 P (by omega), decide_eq_true rfl, Bool.true_and] at hp
  by_cases b : B P = true
  · have n : ¬ lg_cmp so 0 = 0 := fun z => by
      have := (cmp0 so).mp z
      rw [this, hb_0, b] at hp
      cases hp
    rw [if_pos b, if_neg n, if_neg (show ¬ (1 : Int32) = 0 by decide)]
  · have z : so = 0 := hb_z (fun j hj => by
      cases q : hb so j with
      | false => rfl
      | true =>
        have := e4 j hj q
        rw [o1 j hj] at this
        have ej := of_decide_eq_true this
        rw [← ej, hp] at q
        exact absurd q b)
    rw [if_neg b, if_pos ((cmp0 so).mpr z), if_pos (show (0 : Int32) = 0 from rfl)]
/-- why -/
theorem why_v {a0 a1 a2 : Int32} (hT : TXS I rq tI tR (si 384)) (hF : FCS I ri (si 384)) (hK : FLK I ri (si 384)) : (g_X11_why tI tR a0 a1 a2 I J ri rj rq).1 = (g_X12_why a0 a1 a2 U V si sj sq).1 := by
  have k0 : (0 : Int32).toInt = 0 := by decide
  have k2 : (2 : Int32).toInt = 2 := by decide
  have hK' := hK
  obtain ⟨i0, ⟨n0, n40⟩, _⟩ := hK'
  rw [g_X11_why_e, g_X12_why_e]
  simp only [↓ap1_n, between_b, isIn_b]
  by_cases q1 : bt a0 0 2 = 0
  · rw [if_pos q1, if_pos q1]; rfl
  rw [if_neg q1, if_neg q1, bn_n isPerson_c, bn_n isPerson_m, ← i0]
  by_cases q2 : bt a1 0 (I 0 - 1) = 0
  · rw [if_pos q2, if_pos q2]; rfl
  rw [if_neg q2, if_neg q2, isMonth_c, isMonth_m]
  by_cases q3 : bt a2 0 599 = 0
  · rw [if_pos q3, if_pos q3]; rfl
  rw [if_neg q3, if_neg q3]
  have b0 := bt_n q1
  obtain ⟨s1, s2, s3⟩ := sr_is (a := a0) (by omega) (by omega)
  have b1 := bt_cell (n := I 0) (by rw [i0]; exact n0) (by rw [i0]; exact n40) q2
  have i0n : (I 0).toInt = (si 384 5).toInt := congrArg Int32.toInt i0
  obtain ⟨P, hP⟩ : ∃ P : Nat, a1.toInt = (P : Int) := ⟨a1.toInt.toNat, by omega⟩
  obtain ⟨o, v, t1, v1, v2, v3, v4⟩ := fsv_v (I := I) (J := J) (ri := ri) (rj := rj) (rq := rq) (U := U) (V := V) (si := si) (sj := sj) (sq := sq) (tI := tI) (tR := tR) (a := 1 + a0) (y := a1) (mo := a2) (un := 0) s2 s3 hP (by omega) (mo_b q3) ⟨by decide, by decide⟩ hT hF hK
  obtain ⟨z, h', g', f1, f2, f3⟩ := v2 (si 405) (sj 404)
  rw [up_id, up_id, s1] at f3
  rw [g_X3_clauseBy_e, bn_n t1, bn_n f3]
  cases o with
  | none =>
    rw [opt1_0, bnI_mk]
    exact (v3 rfl).symm
  | some w =>
    obtain ⟨F, f', g1, g2⟩ := v4 w rfl ri (fun _ _ => rfl)
    rw [opt1_s, g1, bnV_mk, g2, bnI_mk, bnI_mk]
/-- how many are at a PLACE -/
theorem ca_sim {a0 : Int32} {N : Nat} (hI : (I 0).toInt = (N : Int)) (hS : (si 384 5).toInt = (N : Int)) (hN : N ≤ 40) (hp : ∀ p, p < 40 → ri 5 p = si 384 (740 + 12 * p + 3)) : ∀ (n k : Nat) (x cnt : Int32), x.toInt = (k : Int) → 40 - k < n → ∃ z : Int32, g_X0_countAt_L4 a0 I J ri rj rq n cnt x = (z, I, J, ri, rj, rq) ∧ g_X12_manyAt_L4 a0 U V si sj sq n cnt x = (z, U, V, si, sj, sq) := by
  intro n
  induction n with
  | zero => intro k _ _ _ h; exact absurd h (Nat.not_lt_zero _)
  | succ n ih =>
    intro k x cnt hx hn
    rw [g_X0_countAt_L4_e, g_X12_manyAt_L4_e]
    simp only [↓ap1_n, g_X0_countAt_K25, g_X12_manyAt_K30, g_X12_manyAt_K30_2]
    by_cases c : I 0 ≤ x
    · have c1 := (le_n hI hx).mp c
      rw [if_pos c, if_pos ((le_n hS hx).mpr c1)]
      exact ⟨cnt, rfl, rfl⟩
    · have c1 : ¬ N ≤ k := fun y => c ((le_n hI hx).mpr y)
      have nx := up_i hx (by omega)
      rw [if_neg c, if_neg (fun y => c1 ((le_n hS hx).mp y)), bn_n (pa3 hx (by omega)), at_n hx, hp k (by omega)]
      by_cases d : si 384 (740 + 12 * k + 3) = a0
      · rw [if_pos d, if_pos d, show Int32.ofInt 1 = 1 by decide]
        rw [show Int32.ofInt 1 = 1 by decide] at nx
        have := ih (k + 1) (x + 1) (cnt + 1) nx (by omega)
        exact this
      · rw [if_neg d, if_neg d, Int32.add_zero]
        exact ih (k + 1) _ cnt nx (by omega)
theorem cat_v2 {a0 : Int32} (hK : FLK I ri (si 384)) : ∃ z : Int32, g_X0_countAt a0 I J ri rj rq = (z, I, J, ri, rj, rq) ∧ g_X12_manyAt a0 U V si sj sq = (z, U, V, si, sj, sq) := by
  have k0 : (0 : Int32).toInt = 0 := by decide
  obtain ⟨i0, ⟨n0, n40⟩, kp⟩ := hK
  obtain ⟨N, hN⟩ : ∃ N : Nat, (si 384 5).toInt = (N : Int) := ⟨(si 384 5).toInt.toNat, by omega⟩
  rw [g_X0_countAt_e, g_X12_manyAt_e]
  exact ca_sim (N := N) (by rw [i0]; exact hN) hN (by omega) (fun p hp => (kp p hp).1.2.2.2.1) _ 0 0 0 k0 (by rw [k0]; omega)
theorem free_v {a0 : Int32} {l : Nat} (hK : FLK I ri (si 384)) (hL : LTS I ri (si 384)) (h : a0.toInt = (l : Int)) (hl : l < 5) : ∃ z : Int32, g_X0_freeBeds a0 I J ri rj rq = (z, I, J, ri, rj, rq) ∧ g_X12_freeIn a0 U V si sj sq = (z, U, V, si, sj, sq) := by
  obtain ⟨z, e1, e2⟩ := cat_v2 (I := I) (J := J) (ri := ri) (rj := rj) (rq := rq) (U := U) (V := V) (si := si) (sj := sj) (sq := sq) (a0 := 100 + a0) hK
  have i80 : ((80 : Int32) + a0).toNatClampNeg = 80 + l := at_n ((i_add (show (80 : Int32).toInt = 80 by decide) h (by omega) (by omega)).trans (by omega))
  rw [g_X0_freeBeds_e, g_X12_freeIn_e]
  simp only [↓ap1_n]
  rw [bn_n e1, bn_n e2, at_n h, i80, (hL.2.2 l hl).1]
  exact ⟨_, rfl, rfl⟩
theorem lot_ix {a n : Int32} (h : 0 ≤ n.toInt ∧ n.toInt ≤ 5) (q : bt a 100 (100 + n - 1) ≠ 0) : ∃ l : Nat, l < 5 ∧ (l : Int) < n.toInt ∧ (a - 100).toInt = (l : Int) ∧ a.toInt = 100 + (l : Int) := by
  have b := bt_n q
  have k : (100 : Int32).toInt = 100 := by decide
  have m1 := i_add k (show n.toInt = n.toInt from rfl) (by omega) (by omega)
  have m2 := i_sub m1 (show (1 : Int32).toInt = 1 by decide) (by omega) (by omega)
  rw [k, m2] at b
  have m3 := i_sub (show a.toInt = a.toInt from rfl) k (by omega) (by omega)
  exact ⟨(a.toInt - 100).toNat, by omega, by omega, by omega, by omega⟩
/-- at -/
theorem at_v {a0 : Int32} (h : RSL I ri (si 384)) (hK : FLK I ri (si 384)) (hL : LTS I ri (si 384)) : (g_X11_at a0 I J ri rj rq).1 = (g_X12_at a0 U V si sj sq).1 := by
  obtain ⟨_, _, ⟨_, e1, _⟩, _⟩ := h
  have e4 := hL.1
  obtain ⟨z, z1, z2⟩ := cat_v2 (I := I) (J := J) (ri := ri) (rj := rj) (rq := rq) (U := U) (V := V) (si := si) (sj := sj) (sq := sq) (a0 := a0) hK
  have c30 : g_X11_at_K30 a0 I J ri rj rq = (z, I, J, ri, rj, rq) := by
    rw [g_X11_at_K30_e, g_X11_at_K35_2_e, z1, bnI_mk]
  have m15 : g_X12_at_K15 a0 U V si sj sq = (z, U, V, si, sj, sq) := by
    rw [g_X12_at_K15_e, z2, bnI_mk]
  rw [g_X11_at_e, g_X12_at_e, g_X12_isPlace_e, bn_n isRing_c, bn_n isRing_m, ← e1]
  by_cases q1 : bt a0 0 (I 64 - 1) = 0
  · rw [if_pos q1, if_pos q1, bn_n isLot_c, bn_n isLot_m, ← e4]
    by_cases q2 : bt a0 100 (100 + I 10 - 1) = 0
    · rw [if_pos q2, if_pos q2]
      by_cases q3 : a0 = 200
      · rw [if_pos q3, if_pos q3, bnI_mk, if_neg (show ¬ (1 : Int32) = 0 by decide), c30, m15]
      · rw [if_neg q3, if_neg q3, bnI_mk, if_pos (show (0 : Int32) = 0 from rfl)]
        by_cases q4 : a0 = 300
        · rw [if_pos q4, if_pos q4, c30, m15]
        · rw [if_neg q4, if_neg q4]
          rfl
    · rw [if_neg q2, if_neg q2, bnI_mk, if_neg (show ¬ (1 : Int32) = 0 by decide), c30, m15]
  · rw [if_neg q1, if_neg q1, bnI_mk, if_neg (show ¬ (1 : Int32) = 0 by decide), c30, m15]
/-- answer and PERSONS -/
def FK1 (b c : Int32 × vM) : Prop := b.1 = c.1 ∧ FLK b.2.1 b.2.2.2.1 (c.2.2.2.1 384)
/-- go -/
theorem go_F {a0 a1 : Int32} (h : RSL I ri (si 384)) (hK : FLK I ri (si 384)) (hL : LTS I ri (si 384)) : FK1 (g_X11_go a0 a1 I J ri rj rq) (g_X12_go a0 a1 U V si sj sq) := by
  have k0 : (0 : Int32).toInt = 0 := by decide
  have hK' := hK
  obtain ⟨i0, ⟨n0, n40⟩, kp⟩ := hK'
  obtain ⟨_, ⟨⟨r0, r5⟩, _, _⟩, ⟨_, e1, _, _⟩, _⟩ := h
  rw [← e1] at r0 r5
  have e4 := hL.1
  have l45 := hL.2.1
  have nope : FK1 ((0 : Int32), I, J, ri, rj, rq) ((0 : Int32), U, V, si, sj, sq) := ⟨rfl, hK⟩
  rw [g_X11_go_e, g_X12_go_e, bn_n isPerson_c, bn_n isPerson_m, ← i0]
  by_cases q1 : bt a0 0 (I 0 - 1) = 0
  · rw [if_pos q1, if_pos q1]; exact nope
  rw [if_neg q1, if_neg q1]
  have b1 := bt_cell (n := I 0) (by rw [i0]; exact n0) (by rw [i0]; exact n40) q1
  have i0n : (I 0).toInt = (si 384 5).toInt := congrArg Int32.toInt i0
  obtain ⟨P, hP⟩ : ∃ P : Nat, a0.toInt = (P : Int) := ⟨a0.toInt.toNat, by omega⟩
  have P40 : P < 40 := by omega
  have e3 : ri 5 P = si 384 (740 + 12 * P + 3) := (kp P P40).1.2.2.2.1
  have i3 : ((740 : Int32) + (12 : Int32) * a0 + 3).toNatClampNeg = 740 + 12 * P + 3 := by rw [ixp (c := a0) (k := 3) 3 (by decide) (by decide) (by omega) (by omega), at_n hP]
  -- the PERSON goes
  have yes : ((0 ≤ a1.toInt ∧ a1.toInt ≤ 300) ∧ (a1.toInt < 5 ∨ 100 ≤ a1.toInt)) → FK1 (g_X11_go_K76 a0 a1 I J ri rj rq) (g_X12_go_K61 a0 a1 U V si sj sq) := fun hv => by
    rw [g_X11_go_K76_e, g_X11_go_K81_2_e, g_X12_go_K61_e]
    simp only [↓ap1_n]
    rw [g_X11_go_K95_2_e, at_n hP, i3]
    refine ⟨rfl, ?_⟩
    show FLK I (va_up ri 5 (upd (ri 5) P a1)) (va_up si 384 (upd (si 384) (740 + 12 * P + 3) a1) 384)
    rw [va_up_self]
    exact FLK_3 hK P40 hv
  simp only [↓ap1_n]
  rw [bn_n (pa3 hP P40), bn_n (pa3 hP P40), at_n hP, e3]
  -- whether the PLACE is one
  have place : ∀ x : Int32, g_X12_isPlace a1 U V si sj sq = (x, U, V, si, sj, sq) → True := fun _ _ => trivial
  by_cases d : si 384 (740 + 12 * P + 3) = 300
  · -- DEAD: nobody goes
    rw [if_pos d]
    have : FK1 ((0 : Int32), I, J, ri, rj, rq) (bnI (g_X12_isPlace a1 U V si sj sq) fun (x : Int32) (_ : Nat → Int32) (_ : Nat → Int64) (_ : Nat → Nat → Int32) (_ : Nat → Nat → Int64) (_ : Nat → Nat → Option Nat) => if x = 0 then g_X12_go_K38 U V si sj sq else if si 384 (740 + 12 * P + 3) = a1 then g_X12_go_K38 U V si sj sq else g_X12_go_K38 U V si sj sq) := by
      rw [bn_p g_X12_isPlace_f]
      split
      · exact nope
      · split
        · exact nope
        · exact nope
    rw [if_pos d]
    exact this
  rw [if_neg d, if_neg d]
  rw [g_X12_isPlace_e, bn_n isRing_c, bn_n isRing_m, ← e1]
  by_cases s : si 384 (740 + 12 * P + 3) = a1
  · rw [if_pos s, if_pos s]
    have : ∀ y : Int32, FK1 (g_X11_go_K40 I J ri rj rq) (if y = 0 then g_X12_go_K38 U V si sj sq else g_X12_go_K38 U V si sj sq) := fun y => by
      split
      · exact nope
      · exact nope
    by_cases q2 : bt a1 0 (I 64 - 1) = 0
    · rw [if_pos q2, bn_n isLot_m]
      by_cases q3 : bt a1 100 (100 + si 384 4 - 1) = 0
      · rw [if_pos q3]
        by_cases q4 : a1 = 200
        · rw [if_pos q4, bnI_mk]; exact this 1
        · rw [if_neg q4, bnI_mk]; exact this 0
      · rw [if_neg q3, bnI_mk]; exact this 1
    · rw [if_neg q2, bnI_mk]; exact this 1
  rw [if_neg s, if_neg s]
  have lz : bt a1 0 (I 64 - 1) ≠ 0 → bt a1 100 (100 + si 384 4 - 1) = 0 := fun y => by
    have b := bt_cell (n := I 64) r0 (by omega) y
    refine bt_lo (Int32.lt_iff_toInt_lt.mpr ?_)
    have k : (100 : Int32).toInt = 100 := by decide
    omega
  by_cases q2 : bt a1 0 (I 64 - 1) = 0
  · rw [if_pos q2, if_pos q2, bn_n isLot_c, bn_n isLot_m, bn_n isLot_m, ← e4]
    by_cases q4 : a1 = 200
    · have z : bt a1 100 (100 + I 10 - 1) = 0 := by
        by_cases y : bt a1 100 (100 + I 10 - 1) = 0
        · exact y
        · obtain ⟨l, l1, _, _, l4⟩ := lot_ix (by rw [e4]; exact l45) y
          have k : (200 : Int32).toInt = 200 := by decide
          rw [q4, k] at l4
          omega
      rw [if_pos q4, if_pos z, if_pos q4, bnI_mk, if_neg (show ¬ (1 : Int32) = 0 by decide), if_pos z]
      exact yes (by rw [q4]; decide)
    · rw [if_neg q4, if_neg q4]
      by_cases q3 : bt a1 100 (100 + I 10 - 1) = 0
      · rw [if_pos q3, if_pos q3, bnI_mk, if_pos (show (0 : Int32) = 0 from rfl)]
        exact nope
      · obtain ⟨l, l1, _, l3, l4⟩ := lot_ix (by rw [e4]; exact l45) q3
        obtain ⟨z, z1, z2⟩ := free_v (I := I) (J := J) (ri := ri) (rj := rj) (rq := rq) (U := U) (V := V) (si := si) (sj := sj) (sq := sq) (a0 := a1 - 100) hK hL l3 l1
        rw [if_neg q3, if_neg q3, lcx U V sj sq, if_neg (show ¬ (1 : Int32) = 0 by decide), if_neg q3, bn_n z1, bn_n z2]
        by_cases f : z ≤ 0
        · have f1 := Int32.le_iff_toInt_le.mp f
          rw [if_pos f, if_neg (show ¬ 0 < z from fun y => by have := Int32.lt_iff_toInt_lt.mp y; omega)]
          exact nope
        · rw [if_neg f, if_pos (show 0 < z from Int32.not_le.mp f)]
          exact yes (by omega)
  · have b := bt_cell (n := I 64) r0 (by omega) q2
    rw [if_neg q2, if_neg q2, bn_n (show ((1 : Int32), U, V, si, sj, sq) = ((1 : Int32), U, V, si, sj, sq) from rfl), if_neg (show ¬ (1 : Int32) = 0 by decide), bn_n isLot_m, if_pos (lz q2)]
    exact yes (by omega)
/-- titleOf -/
theorem titleOf_v {a0 a1 : Int32} (h : RSL I ri (si 384)) (hT : TXS I rq tI tR (si 384)) (hF : FCS I ri (si 384)) (hK : FLK I ri (si 384)) (hH : HLD I ri (si 384)) (hD : DRU I J ri (si 384)) : (g_X11_titleOf tI tR a0 a1 I J ri rj rq).1 = (g_X12_titleOf a0 a1 U V si sj sq).1 := by
  have k0 : (0 : Int32).toInt = 0 := by decide
  have km : (-1 : Int32).toInt = -1 := by decide
  obtain ⟨⟨⟨m0, m6⟩, ⟨c0, c4⟩, _⟩, _, ⟨e0, _, e2, _⟩, _⟩ := h
  have ic : g_X11_isCell a0 I J ri rj rq = (bt a0 0 (I 65 - 1), I, J, ri, rj, rq) := rfl
  have im : g_X12_isCell a0 U V si sj sq = (bt a0 0 (si 384 2 - 1), U, V, si, sj, sq) := rfl
  rw [g_X11_titleOf_e, g_X12_titleOf_e, bn_n ic, bn_n im, ← e2]
  by_cases q1 : bt a0 0 (I 65 - 1) = 0
  · rw [if_pos q1, if_pos q1]; rfl
  rw [if_neg q1, if_neg q1]
  have b := bt_cell (n := I 65) c0 c4 q1
  obtain ⟨C, hC⟩ : ∃ C : Nat, a0.toInt = (C : Int) := ⟨a0.toInt.toNat, by omega⟩
  have C40 : C < 40 := by omega
  have ix : ∀ (k : Int32) (m : Nat), k.toInt = (m : Int) → m ≤ 15 → ((100 : Int32) + (16 : Int32) * a0 + k).toNatClampNeg = 100 + 16 * C + m := fun k m hk hm => by rw [ixk (c := a0) (k := k) m hk hm (by omega) (by omega), at_n hC]
  have c14 : g_X12_cellAt_c14 a0 U V si sj sq = (si 384 (100 + 16 * C + 14), U, V, si, sj, sq) := by
    rw [g_X12_cellAt_c14_e]
    simp only [↓ap1_n]
    rw [ix 14 14 (by decide) (by decide)]
  have c12 : g_X12_cellAt_c12 a0 U V si sj sq = (si 384 (100 + 16 * C + 12), U, V, si, sj, sq) := by
    rw [g_X12_cellAt_c12_e]
    simp only [↓ap1_n]
    rw [ix 12 12 (by decide) (by decide)]
  have c11 : g_X12_cellAt_c11 a0 U V si sj sq = (si 384 (100 + 16 * C + 11), U, V, si, sj, sq) := by
    rw [g_X12_cellAt_c11_e]
    simp only [↓ap1_n]
    rw [ix 11 11 (by decide) (by decide)]
  obtain ⟨h1, h2, h3⟩ := (hH C C40).1 (by have z := clampE (I 65); omega)
  obtain ⟨d1, d2, ⟨d3, d4⟩, _⟩ := hD C C40
  simp only [↓ap1_n, isIn_b]
  by_cases w0 : a1 = 0
  · rw [if_pos w0, if_pos w0, w0, if_neg (show ¬ bt 0 0 1 = 0 by decide), bn_n c14, at_n hC]
    exact h1
  rw [if_neg w0, if_neg w0]
  by_cases w1 : a1 = 1
  · rw [if_pos w1, w1, if_neg (show ¬ bt 1 0 1 = 0 by decide), g_X10_titleStands_e, g_X12_stands_e, bn_n c14]
    simp only [↓ap1_n]
    rw [at_n hC, h1]
    by_cases p : si 384 (100 + 16 * C + 14) = -1
    · rw [if_pos p, p, if_neg (show ¬ (0 : Int32) ≤ -1 by decide), lcx I J rj rq, lcx U V sj sq, if_pos (show (0 : Int32) = 0 from rfl), if_pos (show (0 : Int32) = 0 from rfl)]
    · have p0 : (0 : Int32) ≤ si 384 (100 + 16 * C + 14) := Int32.le_iff_toInt_le.mpr (by
        have : (si 384 (100 + 16 * C + 14)).toInt ≠ -1 := fun y => p (Int32.toInt_inj.mp (y.trans km.symm))
        omega)
      rw [if_neg p, if_pos p0, g_X10_wasDry_e]
      simp only [↓ap1_n]
      rw [e0]
      by_cases t : si 384 0 = 0
      · rw [if_pos t, if_pos t, lcx I J rj rq, if_neg (show ¬ (-1 : Int32) = 0 by decide), g_X10_titleStands_K50_e, g_X12_stands_K56_e, lcx I J rj rq, lcx U V sj sq, if_neg (show ¬ (1 : Int32) = 0 by decide), if_neg (show ¬ (1 : Int32) = 0 by decide)]
      · rw [if_neg t, if_neg t, bn_n isDry_v, hasBit_v (by omega) (by omega), at_n hC, bn_n c12, d1]
        by_cases y : hb (J 67) C = true
        · rw [if_pos y, if_neg (show ¬ (1 : Int32) = 0 by decide), lcx I J rj rq, if_neg (show ¬ (1 : Int32) = 0 by decide), if_pos (show (1 : Int32) = 1 from rfl), g_X10_titleStands_K50_e, g_X12_stands_K56_e, lcx I J rj rq, lcx U V sj sq, if_neg (show ¬ (1 : Int32) = 0 by decide), if_neg (show ¬ (1 : Int32) = 0 by decide)]
        · rw [if_neg y, if_pos (show (0 : Int32) = 0 from rfl), lcx I J rj rq, if_pos (show (0 : Int32) = 0 from rfl), if_neg (show ¬ (0 : Int32) = 1 by decide), bn_n c11, d2]
          obtain ⟨Q, hQ⟩ : ∃ Q : Nat, (si 384 (100 + 16 * C + 14)).toInt = (Q : Int) := ⟨(si 384 (100 + 16 * C + 14)).toInt.toNat, by have := Int32.le_iff_toInt_le.mp p0; omega⟩
          obtain ⟨o, v, t1, v1, v2, v3, v4⟩ := fsv_v (I := I) (J := J) (ri := ri) (rj := rj) (rq := rq) (U := U) (V := V) (si := si) (sj := sj) (sq := sq) (tI := tI) (tR := tR) (a := 0) (y := si 384 (100 + 16 * C + 14)) (mo := si 384 0) (un := si 384 (100 + 16 * C + 11)) (by decide) (by decide) hQ (by omega) ⟨by rw [← e0]; omega, by rw [← e0]; omega⟩ ⟨by omega, by rw [← e0] at d4; omega⟩ hT hF hK
          obtain ⟨z, h', g', f1, f2, f3⟩ := v2 (si 405) (sj 404)
          rw [up_id, up_id, show srC 0 = 1 by decide] at f3
          rw [bn_n f3, g_X3_lastsFor_e, bn_n t1]
          have nv : ¬ v = -1 → ¬ v < 0 := fun y z => by
            have := Int32.lt_iff_toInt_lt.mp z
            rcases v1 with v1 | v1
            · exact y v1
            · omega
          cases o with
          | none =>
            rw [opt1_0, lcx I J rj rq, if_pos (show (0 : Int32) = 0 from rfl), lcx I J rj rq, if_pos (show v < 0 by rw [v3 rfl]; decide), lcx U V _ sq, if_pos (show (0 : Int32) = 0 from rfl), if_pos (show (0 : Int32) = 0 from rfl)]
          | some w =>
            obtain ⟨F, f', g1, g2⟩ := v4 w rfl ri (fun _ _ => rfl)
            rw [opt1_s, g1, bnV_mk, bn_n g2]
            by_cases x : v = -1
            · rw [if_pos x, lcx I J rj rq, if_pos (show (0 : Int32) = 0 from rfl), lcx I J rj rq, if_pos (show v < 0 by rw [x]; decide), lcx U V _ sq, if_pos (show (0 : Int32) = 0 from rfl), if_pos (show (0 : Int32) = 0 from rfl)]
            · rw [if_neg x, lcx I J rj rq, if_neg (show ¬ (1 : Int32) = 0 by decide), g_X10_titleStands_K50_e, lcx I J rj rq, if_neg (nv x), g_X12_stands_K56_e, lcx U V _ sq, if_neg (show ¬ (1 : Int32) = 0 by decide), if_neg (show ¬ (1 : Int32) = 0 by decide)]
  · have z : bt a1 0 1 = 0 := by
      by_cases y : bt a1 0 1 = 0
      · exact y
      · have := bt_n y
        have k1 : (1 : Int32).toInt = 1 := by decide
        rw [k0, k1] at this
        exfalso
        by_cases a : a1.toInt = 0
        · exact w0 (i32_k a k0)
        · exact w1 (i32_k (show a1.toInt = 1 by omega) k1)
    rw [if_neg w1, if_pos z]
    rfl
end PK6
