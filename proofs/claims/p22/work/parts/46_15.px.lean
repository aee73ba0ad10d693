/-! ===== pure: numbers by THE LAW, both sides (behind pt0) ===== -/
section PX
variable {I : Nat → Int32} {J : Nat → Int64} {ri : Nat → Nat → Int32} {rj : Nat → Nat → Int64} {rq : Nat → Nat → Option Nat}
variable {U : Nat → Int32} {V : Nat → Int64} {si : Nat → Nat → Int32} {sj : Nat → Nat → Int64} {sq : Nat → Nat → Option Nat}
variable {tI : Nat → Nat → Int32} {tR : Nat → Nat → Nat → Int32}
/-- one TEXT: the class's object w, the reference's number t -/
def TEX1 (tI : Nat → Nat → Int32) (tR : Nat → Nat → Nat → Int32) (A : Nat → Int32) (w t : Nat) (M : CLs) : Prop := (tI 256 w).toInt = (M.length : Int) ∧ A (3720 + 900 * t) = tI 256 w ∧ M.length ≤ 20 ∧ CTX (fun q i => tR q w i) M ∧ ∃ u : Nat, RTX (3720 + 900 * t) A M u ∧ u ≤ tot M ∧ tot M ≤ 300
/-- all TEXTS, all FORCES -/
def TXS (I : Nat → Int32) (rq : Nat → Nat → Option Nat) (tI : Nat → Nat → Int32) (tR : Nat → Nat → Nat → Int32) (A : Nat → Int32) : Prop := I 96 = A 6 ∧ (0 ≤ (A 6).toInt ∧ (A 6).toInt ≤ 10) ∧ ∀ t : Nat, (t : Int) < (A 6).toInt → ∃ (w : Nat) (M : CLs), rq 97 t = some w ∧ TEX1 tI tR A w t M
def FCS (I : Nat → Int32) (ri : Nat → Nat → Int32) (A : Nat → Int32) : Prop := I 98 = A 7 ∧ (0 ≤ (A 7).toInt ∧ (A 7).toInt ≤ 30) ∧ ∀ f : Nat, (f : Int) < (A 7).toInt → ri 99 f = A (2220 + 4 * f) ∧ ri 100 f = A (2220 + 4 * f + 1) ∧ ri 101 f = A (2220 + 4 * f + 2) ∧ 0 ≤ (A (2220 + 4 * f)).toInt ∧ (A (2220 + 4 * f)).toInt < (A 6).toInt
theorem sr_inj {a c : Int32} (h0 : 0 ≤ a.toInt) (h8 : a.toInt ≤ 8) : srC c = srC a ↔ c = a := by
  constructor
  · intro h
    have y := (sr_v h0 h8).2
    by_cases d : 0 ≤ c.toInt ∧ c.toInt ≤ 8
    · have x := (sr_v d.1 d.2).2
      rw [h] at x
      exact Int32.toInt_inj.mp (by omega)
    · have z : srC c = 0 := by
        by_cases e : 8 < c.toInt
        · exact sr_0 e
        · have k : ∀ x : Int32, 0 ≤ x.toInt → ¬ c = x := fun x y z => by
            have := congrArg Int32.toInt z
            omega
          unfold srC
          rw [if_neg (k 0 (by decide)), if_neg (k 1 (by decide)), if_neg (k 2 (by decide)), if_neg (k 3 (by decide)), if_neg (k 4 (by decide)), if_neg (k 5 (by decide)), if_neg (k 6 (by decide)), if_neg (k 7 (by decide)), if_neg (k 8 (by decide))]
      rw [← h, z, show (0 : Int32).toInt = 0 by decide] at y
      omega
  · intro h; rw [h]
theorem ctx_tot {r : Nat → Nat → Int32} : ∀ M : CLs, CTX r M → (r 258 M.length).toInt = (tot M : Int)
  | [], h => h
  | _ :: _, h => h.2.2.1
theorem cl_at {r : Nat → Nat → Int32} {W : Nat} {A : Nat → Int32} : ∀ (M : CLs) (w : Nat), CTX r M → RTX W A M w → ∀ i, i < M.length → ∃ c : Int32, r 257 i = c ∧ A (W + 1 + 12 * i) = srC c ∧ (6 ≤ c.toInt → r 259 (r 258 i).toNatClampNeg = A (W + 1 + 12 * i + 1))
  | [], _, _, _, _, h => absurd h (Nat.not_lt_zero _)
  | x :: M, w, hC, hR, i, h => by
    obtain ⟨c1, c2, c3, c4⟩ := hC
    obtain ⟨r1, r2⟩ := hR
    have hl : (x :: M).length = M.length + 1 := rfl
    by_cases q : i = M.length
    · subst q
      refine ⟨x.1, c2, r1, fun h6 => ?_⟩
      rcases r2 with ⟨b0, _⟩ | ⟨b0, _⟩ | ⟨_, _, y, e1, e2⟩
      · omega
      · omega
      · rw [e2, at_n (ctx_tot M c1)]
        exact c4 0 y (by rw [e1]; rfl)
    · have hR' : ∃ w', RTX W A M w' := by
        rcases r2 with ⟨_, _, w0, b1, _⟩ | ⟨_, _, b1, _⟩ | ⟨_, b1, _⟩
        · exact ⟨w0, b1⟩
        · exact ⟨w, b1⟩
        · exact ⟨w, b1⟩
      obtain ⟨w', hR'⟩ := hR'
      exact cl_at M w' c1 hR' i (by omega)
theorem cof_v {t0 : Int32} {t : Nat} (ht : t0.toInt = (t : Int)) (h9 : t ≤ 10) : g_X12_clausesOf t0 U V si sj sq = (si 384 (3720 + 900 * t), U, V, si, sj, sq) := by
  rw [g_X12_clausesOf_e]
  try simp only [↓ap1_n]
  have m1 := i_mul (show (900 : Int32).toInt = 900 by decide) ht (by omega) (by omega)
  have m2 := i_add (show (3720 : Int32).toInt = 3720 by decide) m1 (by omega) (by omega)
  rw [at_n (p := 3720 + 900 * t) (m2.trans (by omega))]
theorem cat_v {t0 x : Int32} {t j : Nat} (ht : t0.toInt = (t : Int)) (h9 : t ≤ 10) (hx : x.toInt = (j : Int)) (hj : j ≤ 100) : ∃ y : Int32, g_X12_clauseAt t0 x U V si sj sq = (y, U, V, si, sj, sq) ∧ y.toInt = ((3720 + 900 * t + 1 + 12 * j : Nat) : Int) := by
  rw [g_X12_clauseAt_e]
  try simp only [↓ap1_n]
  have m1 := i_mul (show (900 : Int32).toInt = 900 by decide) ht (by omega) (by omega)
  have m2 := i_add (show (3720 : Int32).toInt = 3720 by decide) m1 (by omega) (by omega)
  have m3 := i_add m2 (show (1 : Int32).toInt = 1 by decide) (by omega) (by omega)
  have m4 := i_mul (show (12 : Int32).toInt = 12 by decide) hx (by omega) (by omega)
  have m5 := i_add m3 m4 (by omega) (by omega)
  exact ⟨_, rfl, m5.trans (by omega)⟩
/-- the first CLAUSE of a sort, both sides -/
theorem fo_sim {a t0 : Int32} {w t k : Nat} (hk : (tI 256 w).toInt = (k : Int)) (hA : si 384 (3720 + 900 * t) = tI 256 w) (hk2 : k ≤ 20) (ht : t0.toInt = (t : Int)) (h9 : t ≤ 10) (hs : ∀ i, i < k → (si 384 (3720 + 900 * t + 1 + 12 * i) = srC a ↔ tR 257 w i = a)) : ∀ (m : Nat) (x : Int32) (j : Nat), x.toInt = (j : Int) → j ≤ k → k - j < m → ∃ y1 y2 : Int32, g_X8_firstOf_L2 w a I J ri rj rq tI tR m x = (y1, I, J, ri, rj, rq) ∧ g_X12_firstOf_L2 t0 (srC a) U V si sj sq m x = (y2, U, V, si, sj, sq) ∧ ((y1 = -1 ∧ y2 = -1 ∧ ∀ i, j ≤ i → i < k → tR 257 w i ≠ a) ∨ ∃ i, i < k ∧ y1.toInt = (i : Int) ∧ y2.toInt = ((3720 + 900 * t + 1 + 12 * i : Nat) : Int) ∧ tR 257 w i = a) := by
  intro m
  induction m with
  | zero => intro _ _ _ _ h; exact absurd h (Nat.not_lt_zero _)
  | succ m ih =>
    intro x j hx hj hm
    rw [g_X8_firstOf_L2_e, g_X12_firstOf_L2_e]
    try simp only [↓ap1_n]
    rw [bn_n (cof_v ht h9), hA]
    by_cases q : tI 256 w ≤ x
    · have q1 := (le_n hk hx).mp q
      rw [if_pos q, if_pos q]
      exact ⟨-1, -1, rfl, rfl, Or.inl ⟨rfl, rfl, fun i h1 h2 => absurd h2 (by omega)⟩⟩
    · have q1 : ¬ k ≤ j := fun y => q ((le_n hk hx).mpr y)
      obtain ⟨y, e1, e2⟩ := cat_v (U := U) (V := V) (si := si) (sj := sj) (sq := sq) ht h9 hx (by omega)
      rw [if_neg q, if_neg q, bn_n e1, bn_n e1, at_n e2, at_n hx]
      by_cases c : tR 257 w j = a
      · rw [if_pos c, if_pos ((hs j (by omega)).mpr c)]
        exact ⟨x, y, rfl, rfl, Or.inr ⟨j, by omega, hx, e2, c⟩⟩
      · rw [if_neg c, if_neg (fun z => c ((hs j (by omega)).mp z))]
        obtain ⟨y1, y2, f1, f2, f3⟩ := ih (x + Int32.ofInt 1) (j + 1) (up_i hx (by omega)) (by omega) (by omega)
        refine ⟨y1, y2, f1, f2, ?_⟩
        rcases f3 with ⟨g1, g2, g3⟩ | g
        · exact Or.inl ⟨g1, g2, fun i h1 h2 => by
            by_cases z : i = j
            · rw [z]; exact c
            · exact g3 i (by omega) h2⟩
        · exact Or.inr g
theorem dn_i {x : Int32} (h0 : 0 ≤ x.toInt) (h1 : x.toInt ≤ 1000) : (x + Int32.ofInt (-1)).toInt = x.toInt + -1 := i_add rfl (show (Int32.ofInt (-1)).toInt = -1 by decide) (by omega) (by omega)
theorem opt1_s {β : Type} {w : Nat} {b : β} {k : Nat → β} : opt1 (some w) b k = k w := of_eq_true (eq_self (k w))
theorem opt1_0 {β : Type} {b : β} {k : Nat → β} : opt1 none b k = b := of_eq_true (eq_self b)
theorem bt_lo {a b c : Int32} (h : a < b) : bt a b c = 0 := if_pos h
theorem bt_hi {a b c : Int32} (h1 : ¬ a < b) (h : c < a) : bt a b c = 0 := (if_neg h1).trans (if_pos h)
theorem TEX1_s {A : Nat → Int32} {w t : Nat} {M : CLs} {a : Int32} (h : TEX1 tI tR A w t M) (h0 : 0 ≤ a.toInt) (h8 : a.toInt ≤ 8) : ∀ i, i < M.length → (A (3720 + 900 * t + 1 + 12 * i) = srC a ↔ tR 257 w i = a) := fun i hi => by
  obtain ⟨_, _, _, h4, u, h5, _⟩ := h
  obtain ⟨c, c1, c2, _⟩ := cl_at M u h4 h5 i hi
  have c1' : tR 257 w i = c := c1
  rw [c2, c1']
  exact sr_inj h0 h8
/-- THE TEXT for a sort in a MONTH, both sides -/
theorem tf_sim {a mo : Int32} (h0 : 0 ≤ a.toInt) (h8 : a.toInt ≤ 8) (hT : TXS I rq tI tR (si 384)) (hF : FCS I ri (si 384)) : ∀ (m : Nat) (x : Int32), -1 ≤ x.toInt → x.toInt < (si 384 7).toInt → (x.toInt + 1).toNat < m → ∃ (o : Option Nat) (y : Int32), g_X3_textFor_L7 a mo I J ri rj rq tI tR m x = (o, I, J, ri, rj, rq) ∧ g_X12_textFor_L10 (srC a) mo U V si sj sq m x = (y, U, V, si, sj, sq) ∧ ((o = none ∧ y = -1) ∨ ∃ (w t : Nat) (M : CLs), o = some w ∧ y.toInt = (t : Int) ∧ t ≤ 9 ∧ TEX1 tI tR (si 384) w t M ∧ ∃ i, i < M.length ∧ tR 257 w i = a) := by
  obtain ⟨_, ⟨t1, t2⟩, t3⟩ := hT
  obtain ⟨_, ⟨f1, f2⟩, f3⟩ := hF
  have k0 : (0 : Int32).toInt = 0 := by decide
  have km : (-1 : Int32).toInt = -1 := by decide
  intro m
  induction m with
  | zero => intro x _ _ h; exact absurd h (Nat.not_lt_zero _)
  | succ m ih =>
    intro x h1 h2 h3
    rw [g_X3_textFor_L7_e, g_X12_textFor_L10_e]
    try simp only [↓ap1_n, isIn_b, g_X3_textFor_K62, g_X12_textFor_K71]
    by_cases q : x < 0
    · rw [if_pos q, if_pos q]
      exact ⟨none, -1, rfl, rfl, Or.inl ⟨rfl, rfl⟩⟩
    · have q0 : 0 ≤ x.toInt := by
        have z : ¬ x.toInt < (0 : Int32).toInt := fun z => q (Int32.lt_iff_toInt_lt.mpr z)
        rw [k0] at z
        omega
      rw [if_neg q, if_neg q]
      have dn := dn_i q0 (by omega)
      generalize x + Int32.ofInt (-1) = z at dn ⊢
      have nx := ih z (by omega) (by omega) (by omega)
      clear dn
      obtain ⟨f, hf⟩ : ∃ f : Nat, x.toInt = (f : Int) := ⟨x.toInt.toNat, by omega⟩
      obtain ⟨e1, e2, e3, e4, e5⟩ := f3 f (by omega)
      have m1 := i_mul (show (4 : Int32).toInt = 4 by decide) hf (by omega) (by omega)
      have m2 := i_add (show (2220 : Int32).toInt = 2220 by decide) m1 (by omega) (by omega)
      have m3 := i_add m2 (show (1 : Int32).toInt = 1 by decide) (by omega) (by omega)
      have m4 := i_add m2 (show (2 : Int32).toInt = 2 by decide) (by omega) (by omega)
      rw [at_n hf, at_n (p := 2220 + 4 * f) (m2.trans (by omega)), at_n (p := 2220 + 4 * f + 1) (m3.trans (by omega)), at_n (p := 2220 + 4 * f + 2) (m4.trans (by omega)), e1, e2, e3]
      clear m1 m2 m3 m4
      by_cases c1 : mo < si 384 (2220 + 4 * f + 1)
      · rw [if_pos c1, bt_lo c1, if_pos rfl]
        exact nx
      · rw [if_neg c1]
        by_cases c2 : si 384 (2220 + 4 * f + 2) < mo
        · rw [if_pos c2, bt_hi c1 c2, if_pos rfl]
          exact nx
        · have b1 : bt mo (si 384 (2220 + 4 * f + 1)) (si 384 (2220 + 4 * f + 2)) = 1 := (if_neg c1).trans (if_neg c2)
          rw [if_neg c2, b1, if_neg (show ¬ (1 : Int32) = 0 by decide)]
          obtain ⟨t, ht⟩ : ∃ t : Nat, (si 384 (2220 + 4 * f)).toInt = (t : Int) := ⟨(si 384 (2220 + 4 * f)).toInt.toNat, by omega⟩
          obtain ⟨w, M, w1, w2⟩ := t3 t (by omega)
          rw [at_n ht, w1, opt1_s, g_X8_firstOf_e, g_X12_firstOf_e]
          have w2' := w2
          obtain ⟨p1, p2, p3, p4⟩ := w2'
          obtain ⟨y1, y2, g1, g2, g3⟩ := fo_sim (I := I) (J := J) (ri := ri) (rj := rj) (rq := rq) (U := U) (V := V) (si := si) (sj := sj) (sq := sq) (tI := tI) (tR := tR) (a := a) p1 p2 p3 ht (by omega) (TEX1_s w2 h0 h8) ((20 - (0 : Int32).toInt).toNat + 1) 0 0 k0 (Nat.zero_le _) (by rw [k0]; omega)
          rw [bn_n g1, bn_n g2]
          rcases g3 with ⟨z1, z2, _⟩ | ⟨i, z1, z2, z3, z4⟩
          · rw [if_pos z1, if_pos (show y2 < 0 by rw [z2]; decide)]
            exact nx
          · rw [if_neg (show ¬ y1 = -1 from fun v => by rw [v, km] at z2; omega), if_neg (show ¬ y2 < 0 from fun v => by have := Int32.lt_iff_toInt_lt.mp v; rw [k0, z3] at this; omega)]
            exact ⟨some w, _, rfl, rfl, Or.inr ⟨w, t, M, rfl, ht, by omega, w2, i, z1, z4⟩⟩
/-- a number by THE TEXT -/
theorem num_in {a mo d : Int32} (h6 : 6 ≤ a.toInt) (h8 : a.toInt ≤ 8) (hT : TXS I rq tI tR (si 384)) (hF : FCS I ri (si 384)) : ∃ y : Int32, g_X3_numberIn tI tR a mo d I J ri rj rq = (y, I, J, ri, rj, rq) ∧ g_X12_numberOf (srC a) mo d U V si sj sq = (y, U, V, si, sj, sq) := by
  have k0 : (0 : Int32).toInt = 0 := by decide
  have km : (-1 : Int32).toInt = -1 := by decide
  have n7 : (7 : Int32).toNatClampNeg = 7 := by decide
  have hT' := hT
  have hF' := hF
  obtain ⟨_, ⟨t1, t2⟩, _⟩ := hT'
  obtain ⟨f0, ⟨f1, f2⟩, _⟩ := hF'
  rw [g_X3_numberIn_e, g_X12_numberOf_e, g_X3_textFor_e, g_X12_textFor_e]
  simp only [↓ap1_n, n7]
  rw [f0]
  have hx : (si 384 7 - 1).toInt = (si 384 7).toInt - 1 := i_sub rfl (show (1 : Int32).toInt = 1 by decide) (by omega) (by omega)
  obtain ⟨o, y, e1, e2, e3⟩ := tf_sim (I := I) (J := J) (ri := ri) (rj := rj) (rq := rq) (U := U) (V := V) (si := si) (sj := sj) (sq := sq) (tI := tI) (tR := tR) (a := a) (mo := mo) (by omega) h8 hT hF (((si 384 7 - 1).toInt - (-1)).toNat + 1) (si 384 7 - 1) (by rw [hx]; omega) (by rw [hx]; omega) (by rw [hx]; omega)
  rw [bn_n e1, bn_n e2]
  rcases e3 with ⟨z1, z2⟩ | ⟨w, t, M, z1, z2, z3, z4, i0, z5, z6⟩
  · rw [z1, opt1_0, if_neg (show ¬ (0 : Int32) ≤ y by rw [z2]; decide)]
    exact ⟨d, rfl, rfl⟩
  · rw [z1, opt1_s, if_pos (show (0 : Int32) ≤ y from Int32.le_iff_toInt_le.mpr (by rw [k0, z2]; omega)), g_X8_numberOf_e, g_X8_firstOf_e, g_X12_firstOf_e]
    try simp only [↓ap1_n]
    have z4' := z4
    obtain ⟨p1, p2, p3, p4, u, p5, _⟩ := z4'
    obtain ⟨y1, y2, g1, g2, g3⟩ := fo_sim (I := I) (J := J) (ri := ri) (rj := rj) (rq := rq) (U := U) (V := V) (si := si) (sj := sj) (sq := sq) (tI := tI) (tR := tR) (a := a) p1 p2 p3 z2 (by omega) (TEX1_s z4 (by omega) h8) ((20 - (0 : Int32).toInt).toNat + 1) 0 0 k0 (Nat.zero_le _) (by rw [k0]; omega)
    rw [bn_n g1, bn_n g2]
    rcases g3 with ⟨_, _, v3⟩ | ⟨i, v1, v2, v3, v4⟩
    · exact absurd z6 (v3 i0 (Nat.zero_le _) z5)
    · obtain ⟨c, c1, _, c3⟩ := cl_at M u p4 p5 i v1
      have c1' : tR 257 w i = c := c1
      have hc : c = a := c1'.symm.trans v4
      have c4 : tR 259 w (tR 258 w i).toNatClampNeg = si 384 (3720 + 900 * t + 1 + 12 * i + 1) := c3 (by rw [hc]; exact h6)
      have m1 := i_add v3 (show (1 : Int32).toInt = 1 by decide) (by omega) (by omega)
      rw [if_neg (show ¬ y1 = -1 from fun z => by rw [z, km] at v2; omega), bn_n rfl, at_n v2, c4, at_n (p := 3720 + 900 * t + 1 + 12 * i + 1) (m1.trans (by omega))]
      exact ⟨_, rfl, rfl⟩
/-- says(), both sides -/
theorem says_v {a0 a1 : Int32} (hT : TXS I rq tI tR (si 384)) (hF : FCS I ri (si 384)) : (g_X11_says tI tR a0 a1 I J ri rj rq).1 = (g_X12_says a0 a1 U V si sj sq).1 := by
  rw [g_X11_says_e, g_X12_says_e]
  simp only [↓ap1_n, isMonth_c, isMonth_m]
  have s7 : (7 : Int32) = srC 6 := by decide
  have s8 : (8 : Int32) = srC 7 := by decide
  have s9 : (9 : Int32) = srC 8 := by decide
  by_cases c : bt a0 0 599 = 0
  · rw [if_pos c, if_pos c]
  · rw [if_neg c, if_neg c]
    by_cases q0 : a1 = 0
    · rw [if_pos q0, if_pos q0, g_X3_councilIn_e]
      obtain ⟨y, e1, e2⟩ := num_in (I := I) (J := J) (ri := ri) (rj := rj) (rq := rq) (U := U) (V := V) (si := si) (sj := sj) (sq := sq) (tI := tI) (tR := tR) (a := 6) (mo := a0) (d := 50) (by decide) (by decide) hT hF
      rw [s7, bn_n e1, bn_n rfl, bn_n e2]
    · rw [if_neg q0, if_neg q0]
      by_cases q1 : a1 = 1
      · rw [if_pos q1, if_pos q1, g_X3_leaveIn_e]
        obtain ⟨y, e1, e2⟩ := num_in (I := I) (J := J) (ri := ri) (rj := rj) (rq := rq) (U := U) (V := V) (si := si) (sj := sj) (sq := sq) (tI := tI) (tR := tR) (a := 8) (mo := a0) (d := 10) (by decide) (by decide) hT hF
        rw [s9, bn_n e1, bn_n rfl, bn_n e2]
      · rw [if_neg q1, if_neg q1]
        by_cases q2 : a1 = 2
        · rw [if_pos q2, if_pos q2, g_X3_fixIn_e]
          obtain ⟨y, e1, e2⟩ := num_in (I := I) (J := J) (ri := ri) (rj := rj) (rq := rq) (U := U) (V := V) (si := si) (sj := sj) (sq := sq) (tI := tI) (tR := tR) (a := 7) (mo := a0) (d := -1) (by decide) (by decide) hT hF
          rw [s8, bn_n e1, bn_n rfl, bn_n e2]
        · rw [if_neg q2, if_neg q2]
end PX
