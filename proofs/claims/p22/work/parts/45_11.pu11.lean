/-! ===== pure: months, on both sides ===== -/
theorem bnV_mk {β : Type} {I : Nat → Int32} {J : Nat → Int64} {ri : Nat → Nat → Int32} {rj : Nat → Nat → Int64} {rq : Nat → Nat → Option Nat} {k : (Nat → Int32) → (Nat → Int64) → (Nat → Nat → Int32) → (Nat → Nat → Int64) → (Nat → Nat → Option Nat) → β} : bnV (I, J, ri, rj, rq) k = k I J ri rj rq := of_eq_true (eq_self (k I J ri rj rq))
theorem bnI_mk {α β : Type} {v : α} {I : Nat → Int32} {J : Nat → Int64} {ri : Nat → Nat → Int32} {rj : Nat → Nat → Int64} {rq : Nat → Nat → Option Nat} {k : α → (Nat → Int32) → (Nat → Int64) → (Nat → Nat → Int32) → (Nat → Nat → Int64) → (Nat → Nat → Option Nat) → β} : bnI (v, I, J, ri, rj, rq) k = k v I J ri rj rq := of_eq_true (eq_self (k v I J ri rj rq))
theorem bV_of {β : Type} {P : β → Prop} {s : wS} {μ p : vM} {k : (Nat → Int32) → (Nat → Int64) → (Nat → Nat → Int32) → (Nat → Nat → Int64) → (Nat → Nat → Option Nat) → β} (h : FRG id s μ p) (H : ∀ I J ri rj rq, FRV s μ (I, J, ri, rj, rq) → P (k I J ri rj rq)) : P (bnV p k) := H _ _ _ _ _ h
theorem bI_of {α β : Type} {P : β → Prop} {s : wS} {μ : vM} {p : α × vM} {k : α → (Nat → Int32) → (Nat → Int64) → (Nat → Nat → Int32) → (Nat → Nat → Int64) → (Nat → Nat → Option Nat) → β} (h : FRG Prod.snd s μ p) (H : ∀ r I J ri rj rq, FRV s μ (I, J, ri, rj, rq) → P (k r I J ri rj rq)) : P (bnI p k) := H _ _ _ _ _ _ h
section PU11
variable {I : Nat → Int32} {J : Nat → Int64} {ri : Nat → Nat → Int32} {rj : Nat → Nat → Int64} {rq : Nat → Nat → Option Nat}
variable {U : Nat → Int32} {V : Nat → Int64} {si : Nat → Nat → Int32} {sj : Nat → Nat → Int64} {sq : Nat → Nat → Option Nat}
def GB (x : Int32) (s r : Nat → Int32) (b : vM) : Prop := b.1 320 = x ∧ b.2.2.1 73 = s ∧ b.2.2.1 74 = r
theorem goBy_v {tI : Nat → Nat → Int32} {tR : Nat → Nat → Nat → Int32} {a0 : Int32} (hN : RN I) (h6 : (I 320).toInt < 600) : ∃ (I1 : Nat → Int32) (J1 : Nat → Int64) (r1 : Nat → Nat → Int32) (l1 : Nat → Nat → Int64), g_X10_goBy tI tR a0 I J ri rj rq = (I1, J1, r1, l1, rq) ∧ (∀ f, f ∈ [64, 65, 224, 234, 235, 236] → I1 f = I f) ∧ I1 320 = I 320 + 1 ∧ r1 73 = sdN I ri ∧ r1 74 = reN I ri ∧ ∀ t, t ∈ [69, 70, 75, 79, 225, 226, 227, 228, 229, 230, 231, 232] → r1 t = ri t := by
  obtain ⟨I1, J1, r1, l1, en, n1, n73, n74, nr, nl, nj, _⟩ := nature_v (I := I) (J := J) (ri := ri) (rj := rj) (rq := rq) (a0 := a0) hN h6
  have k6 : (600 : Int32).toInt = 600 := by decide
  have hG : GB (I 320 + 1) (sdN I ri) (reN I ri) (g_X10_goBy tI tR a0 I J ri rj rq) := by
    rw [g_X10_goBy_e]
    simp only [↓ap1_n]
    rw [if_pos (Int32.lt_iff_toInt_lt.mpr (by rw [k6]; exact h6)), en, bnV_mk]
    refine bV_of g_X9_fillUp_f (fun _ _ ra _ _ h1 => ?_)
    refine bV_of g_X2_countBeds_332_f (fun _ _ rb _ _ h2 => ?_)
    refine bI_of g_X0_drink_f (fun _ _ _ rc _ _ h3 => ?_)
    refine bI_of g_X0_sleep_332_f (fun _ _ _ rd _ _ h4 => ?_)
    refine bV_of g_X10_reckon_f (fun I2 _ re _ _ h5 => ?_)
    have z1 : ra 73 = r1 73 := h1.2.2.1 73 (by decide)
    have y1 : ra 74 = r1 74 := h1.2.2.1 74 (by decide)
    have z2 : rb 73 = ra 73 := h2.2.2.1 73 (by decide)
    have y2 : rb 74 = ra 74 := h2.2.2.1 74 (by decide)
    have z3 : rc 73 = rb 73 := h3.2.2.1 73 (by decide)
    have y3 : rc 74 = rb 74 := h3.2.2.1 74 (by decide)
    have z4 : rd 73 = rc 73 := h4.2.2.1 73 (by decide)
    have y4 : rd 74 = rc 74 := h4.2.2.1 74 (by decide)
    have z5 : re 73 = rd 73 := h5.2.2.1 73 (by decide)
    have y5 : re 74 = rd 74 := h5.2.2.1 74 (by decide)
    have x5 : I2 320 = I1 320 := h5.1 320 (by decide)
    have x0 : I2 320 = I 320 := x5.trans (n1 320 (by decide))
    have z0 : re 73 = sdN I ri := by rw [z5, z4, z3, z2, z1]; exact n73
    have y0 : re 74 = reN I ri := by rw [y5, y4, y3, y2, y1]; exact n74
    by_cases q : I2 322 ≤ 0
    · rw [if_pos q, g_X10_goBy_K174_e]
      simp only [↓ap1_n]
      refine ⟨?_, z0, y0⟩
      show va_up I2 320 (I2 320 + 1) 320 = I 320 + 1
      rw [va_up_self, x0]
    · rw [if_neg q]
      refine bV_of g_X3_line_331_f (fun _ _ rf _ _ h6 => ?_)
      refine bI_of g_X0_onRings_f (fun _ _ _ rg _ _ h7 => ?_)
      refine bI_of g_X3_whoIsSo_f (fun _ _ _ rh _ _ h8 => ?_)
      refine bV_of g_X0_board_331_f (fun _ _ rk _ _ h9 => ?_)
      have z6 : rf 73 = re 73 := h6.2.2.1 73 (by decide)
      have y6 : rf 74 = re 74 := h6.2.2.1 74 (by decide)
      have z8 : rh 73 = rf 73 := h8.2.2.1 73 (by decide)
      have y8 : rh 74 = rf 74 := h8.2.2.1 74 (by decide)
      have z9 : rk 73 = rh 73 := h9.2.2.1 73 (by decide)
      have y9 : rk 74 = rh 74 := h9.2.2.1 74 (by decide)
      rw [g_X10_goBy_K174_e]
      simp only [↓ap1_n]
      refine ⟨?_, ((z9.trans z8).trans z6).trans z0, ((y9.trans y8).trans y6).trans y0⟩
      show va_up I2 320 (I2 320 + 1) 320 = I 320 + 1
      rw [va_up_self, x0]
  have hF : FRG id w_X10_goBy (I, J, ri, rj, rq) (g_X10_goBy tI tR a0 I J ri rj rq) := g_X10_goBy_f
  generalize g_X10_goBy tI tR a0 I J ri rj rq = b at hG hF ⊢
  obtain ⟨I2, J2, r2, l2, q2⟩ := b
  have hq : q2 = rq := funext fun t => hF.2.2.2.2 t (fun x => by have y : t ∈ ([] : List Nat) := x; cases y)
  have D1 : ∀ f, f ∈ [64, 65, 224, 234, 235, 236] → f ∉ w_X10_goBy.1 := by decide
  have D2 : ∀ t, t ∈ [69, 70, 75, 79, 225, 226, 227, 228, 229, 230, 231, 232] → t ∉ w_X10_goBy.2.2.1 := by decide
  exact ⟨I2, J2, r2, l2, by rw [hq], fun f hf => hF.1 f (D1 f hf), hG.1, hG.2.1, hG.2.2, fun t ht => hF.2.2.1 t (D2 t ht)⟩
/-- what lies between: both sides' -/
def bt (a b c : Int32) : Int32 := if a < b then 0 else if c < a then 0 else 1
theorem between_b {a b c : Int32} : g_X11_between a b c = bt a b c := of_eq_true (eq_self (bt a b c))
theorem isIn_b {a b c : Int32} : g_X12_isIn a b c = bt a b c := of_eq_true (eq_self (bt a b c))
theorem isRise_c {a : Int32} : g_X11_isRise a = bt a 0 2 := of_eq_true (eq_self (bt a 0 2))
theorem isRise_m {a : Int32} : g_X12_isRise a = bt a 0 2 := of_eq_true (eq_self (bt a 0 2))
theorem isMonth_c {a : Int32} : g_X11_isMonth a = bt a 0 599 := of_eq_true (eq_self (bt a 0 599))
theorem isMonth_m {a : Int32} : g_X12_isMonth a = bt a 0 599 := of_eq_true (eq_self (bt a 0 599))
theorem isCell_c {a : Int32} : g_X11_isCell a I J ri rj rq = (bt a 0 (I 65 - 1), I, J, ri, rj, rq) := rfl
theorem isCell_m {a : Int32} : g_X12_isCell a I J ri rj rq = (bt a 0 (ri 384 2 - 1), I, J, ri, rj, rq) := rfl
theorem isRing_c {a : Int32} : g_X11_isRing a I J ri rj rq = (bt a 0 (I 64 - 1), I, J, ri, rj, rq) := rfl
theorem isRing_m {a : Int32} : g_X12_isRing a I J ri rj rq = (bt a 0 (ri 384 1 - 1), I, J, ri, rj, rq) := rfl
theorem bt_n {a b c : Int32} (h : bt a b c ≠ 0) : b.toInt ≤ a.toInt ∧ a.toInt ≤ c.toInt := by
  unfold bt at h
  by_cases q : a < b
  · rw [if_pos q] at h; exact absurd rfl h
  · rw [if_neg q] at h
    by_cases p : c < a
    · rw [if_pos p] at h; exact absurd rfl h
    · exact ⟨Int32.le_iff_toInt_le.mp (Int32.not_lt.mp q), Int32.le_iff_toInt_le.mp (Int32.not_lt.mp p)⟩
theorem bt_y {a b c : Int32} (h1 : b.toInt ≤ a.toInt) (h2 : a.toInt ≤ c.toInt) : bt a b c = 1 := by
  unfold bt
  rw [if_neg (Int32.not_lt.mpr (Int32.le_iff_toInt_le.mpr h1)), if_neg (Int32.not_lt.mpr (Int32.le_iff_toInt_le.mpr h2))]
theorem bt_cell {a n : Int32} (h0 : 0 ≤ n.toInt) (h4 : n.toInt ≤ 40) (h : bt a 0 (n - 1) ≠ 0) : 0 ≤ a.toInt ∧ a.toInt < n.toInt := by
  have x := bt_n h
  have k0 : (0 : Int32).toInt = 0 := by decide
  have e : (n - 1).toInt = n.toInt - 1 := i_sub rfl (show (1 : Int32).toInt = 1 by decide) (by omega) (by omega)
  omega
theorem canTime {a0 a1 : Int32} (h : RSL I ri (si 384)) : ∃ v : Int32, g_X11_canGoBy a1 a0 60 I J ri rj rq = (v, I, J, ri, rj, rq) ∧ g_X12_isTime a0 60 a1 U V si sj sq = (v, U, V, si, sj, sq) ∧ (v ≠ 0 → 0 ≤ a1.toInt ∧ a1.toInt ≤ 2 ∧ 1 ≤ a0.toInt ∧ a0.toInt ≤ 60 ∧ (I 320).toInt + a0.toInt ≤ 600) := by
  obtain ⟨⟨⟨m0, m6⟩, _, _⟩, _, ⟨e0, _⟩, _⟩ := h
  have k0 : (0 : Int32).toInt = 0 := by decide
  have k1 : (1 : Int32).toInt = 1 := by decide
  have k2 : (2 : Int32).toInt = 2 := by decide
  have k60 : (60 : Int32).toInt = 60 := by decide
  have k600 : (600 : Int32).toInt = 600 := by decide
  rw [g_X11_canGoBy_e, g_X12_isTime_e]
  simp only [↓ap1_n, between_b, isIn_b, isRise_c, isRise_m, g_X11_canGoBy_K35, g_X12_isTime_K34]
  rw [← e0]
  by_cases q1 : bt a1 0 2 = 0
  · simp only [if_pos q1]
    refine ⟨0, rfl, ?_, fun y => absurd rfl y⟩
    by_cases q2 : bt a0 1 60 = 0
    · simp only [if_pos q2]
    · simp only [if_neg q2]
  · by_cases q2 : bt a0 1 60 = 0
    · simp only [if_neg q1, if_pos q2]
      exact ⟨0, rfl, rfl, fun y => absurd rfl y⟩
    · have b1 := bt_n q1
      have b2 := bt_n q2
      have es : (I 320 + a0).toInt = (I 320).toInt + a0.toInt := i_add rfl rfl (by omega) (by omega)
      by_cases q3 : (600 : Int32) < I 320 + a0
      · simp only [if_neg q1, if_neg q2, if_pos q3]
        exact ⟨0, rfl, rfl, fun y => absurd rfl y⟩
      · have d := Int32.le_iff_toInt_le.mp (Int32.not_lt.mp q3)
        simp only [if_neg q1, if_neg q2, if_neg q3]
        exact ⟨1, rfl, rfl, fun _ => ⟨by omega, by omega, by omega, by omega, by omega⟩⟩
theorem months_l {tI : Nat → Nat → Int32} {tR : Nat → Nat → Nat → Int32} {a0 a1 : Int32} (h60 : a0.toInt ≤ 60) : ∀ (n : Nat) (x : Int32) (I : Nat → Int32) (J : Nat → Int64) (ri : Nat → Nat → Int32) (rj : Nat → Nat → Int64) (U : Nat → Int32) (si : Nat → Nat → Int32) (sj : Nat → Nat → Int64), 0 ≤ x.toInt → x.toInt ≤ a0.toInt → (60 - x.toInt).toNat < n → (I 320).toInt + (a0.toInt - x.toInt) ≤ 600 → RSL I ri (si 384) → ∃ (I1 : Nat → Int32) (J1 : Nat → Int64) (r1 : Nat → Nat → Int32) (l1 : Nat → Nat → Int64) (U1 : Nat → Int32) (s1 : Nat → Nat → Int32) (m1 : Nat → Nat → Int64), g_X11_months_L15 a0 a1 rq tI tR n x I J ri rj = (I1 320, I1, J1, r1, l1, rq) ∧ g_X12_months_L15 a0 a1 V sq n x U si sj = (s1 384 0, U1, V, s1, m1, sq) ∧ RSL I1 r1 (s1 384) ∧ (∀ t, t ∉ [384, 405, 409, 411, 412] → s1 t = si t) ∧ zk (si 384) (s1 384) := by
  intro n
  induction n with
  | zero => intro x _ _ _ _ _ _ _ _ _ h; exact absurd h (Nat.not_lt_zero _)
  | succ n ih =>
    intro x I J ri rj U si sj h1 h2 h3 h4 h
    rw [g_X11_months_L15_e, g_X12_months_L15_e]
    by_cases d : a0 ≤ x
    · simp only [if_pos d, ↓ap1_n]
      exact ⟨I, J, ri, rj, U, si, sj, rfl, by rw [show (0 : Int32).toNatClampNeg = 0 from by decide], h, fun _ _ => rfl, fun _ _ => Iff.rfl, rfl⟩
    · have d1 := Int32.lt_iff_toInt_lt.mp (Int32.not_le.mp d)
      have e := t1_inc (x := x) (by omega) (by omega)
      simp only [if_neg d, ↓ap1_n]
      obtain ⟨I1, J1, r1, l1, e1, f1, f2, f3, f4, f5⟩ := goBy_v (I := I) (J := J) (ri := ri) (rj := rj) (rq := rq) (tI := tI) (tR := tR) (a0 := a1) h.1 (by omega)
      obtain ⟨U1, s1, m1, e2, o2, z0, z4, z5, z12, zo, zk1⟩ := month_v (U := U) (V := V) (sj := sj) (sq := sq) (a0 := a1) h (by omega)
      rw [e1, e2, bnV_mk, bnV_mk]
      have n0 := h.1.1.1
      have q0 : (I 320 + 1).toInt = (I 320).toInt + 1 := t1_one (by omega) (by omega)
      obtain ⟨I2, J2, r2, l2, U2, s2, m2, c1, c2, c3, c4, c5⟩ := ih (x + Int32.ofInt 1) I1 J1 r1 l1 U1 s1 m1 (by omega) (by omega) (by omega) (by rw [f2, q0]; omega) (RL_month (a0 := a1) h (by omega) f1 f2 f3 f4 f5 z0 z4 z5 zo)
      exact ⟨I2, J2, r2, l2, U2, s2, m2, c1, c2, c3, fun t ht => (c4 t ht).trans (o2 t ht), fun p hp => (c5.1 p hp).trans (zk1.1 p hp), c5.2.trans zk1.2⟩
theorem months_v {tI : Nat → Nat → Int32} {tR : Nat → Nat → Nat → Int32} {a0 a1 : Int32} (h : RSL I ri (si 384)) : ∃ (v : Int32) (I1 : Nat → Int32) (J1 : Nat → Int64) (r1 : Nat → Nat → Int32) (l1 : Nat → Nat → Int64) (U1 : Nat → Int32) (s1 : Nat → Nat → Int32) (m1 : Nat → Nat → Int64), g_X11_months tI tR a0 a1 I J ri rj rq = (v, I1, J1, r1, l1, rq) ∧ g_X12_months a0 a1 U V si sj sq = (v, U1, V, s1, m1, sq) ∧ RSL I1 r1 (s1 384) ∧ (∀ t, t ∉ [384, 405, 409, 411, 412] → s1 t = si t) ∧ zk (si 384) (s1 384) := by
  obtain ⟨v, c1, c2, c3⟩ := canTime (a0 := a0) (a1 := a1) (J := J) (rj := rj) (rq := rq) (U := U) (V := V) (sj := sj) (sq := sq) h
  rw [g_X11_months_e, g_X12_months_e, c1, c2, bnI_mk, bnI_mk]
  by_cases q : v = 0
  · simp only [if_pos q]
    exact ⟨-1, I, J, ri, rj, U, si, sj, rfl, rfl, h, fun _ _ => rfl, fun _ _ => Iff.rfl, rfl⟩
  · simp only [if_neg q]
    obtain ⟨b1, b2, b3, b4, b5⟩ := c3 q
    have k0 : (0 : Int32).toInt = 0 := by decide
    obtain ⟨I1, J1, r1, l1, U1, s1, m1, d1, d2, d3, d4⟩ := months_l (rq := rq) (V := V) (sq := sq) (tI := tI) (tR := tR) (a0 := a0) (a1 := a1) b4 ((60 - (0 : Int32).toInt).toNat + 1) 0 I J ri rj U si sj (by omega) (by omega) (by omega) (by omega) h
    refine ⟨I1 320, I1, J1, r1, l1, U1, s1, m1, d1, ?_, d3, d4⟩
    rw [d2, d3.2.2.1.1]
end PU11
