/-! ===== pure: graves of both sides ===== -/
section PU17
variable {I : Nat → Int32} {J : Nat → Int64} {ri : Nat → Nat → Int32} {rj : Nat → Nat → Int64} {rq : Nat → Nat → Option Nat}
variable {U : Nat → Int32} {V : Nat → Int64} {si : Nat → Nat → Int32} {sj : Nat → Nat → Int64} {sq : Nat → Nat → Option Nat}
variable {A A1 : Nat → Int32}
/-- whether a grave has lain in a cell, as the reference holds it -/
def gb (A : Nat → Int32) (g c : Nat) : Bool := if c < 20 then b3 (A (2400 + 4 * g + 1)) c else b3 (A (2400 + 4 * g + 2)) (c - 20)
/-- the graves of both sides -/
def GRV (I : Nat → Int32) (ri : Nat → Nat → Int32) (rj : Nat → Nat → Int64) (A : Nat → Int32) : Prop := I 32 = A 10 ∧ (0 ≤ (A 10).toInt ∧ (A 10).toInt ≤ 30) ∧ (∀ g, g < (A 10).toNatClampNeg → ri 33 g = A (2400 + 4 * g) ∧ ∀ c, c < 40 → hb (rj 34 g) c = gb A g c) ∧ ∀ g, (A 10).toNatClampNeg ≤ g → g < 30 → A (2400 + 4 * g + 1) = 0 ∧ A (2400 + 4 * g + 2) = 0
def CG (b c : Int32 × vM) : Prop := b.1 = c.1 ∧ GRV b.2.1 b.2.2.2.1 b.2.2.2.2.1 (c.2.2.2.1 384)
theorem cg_no {v : Int32} (h : GRV I ri rj (si 384)) : CG (v, I, J, ri, rj, rq) (v, U, V, si, sj, sq) := ⟨rfl, h⟩
theorem gb_cg {g c : Nat} (h1 : A1 (2400 + 4 * g + 1) = A (2400 + 4 * g + 1)) (h2 : A1 (2400 + 4 * g + 2) = A (2400 + 4 * g + 2)) : gb A1 g c = gb A g c := by
  unfold gb
  rw [h1, h2]
theorem GRV_cg {I1 : Nat → Int32} {r1 : Nat → Nat → Int32} {l1 : Nat → Nat → Int64} (h : GRV I ri rj A) (hI : I1 32 = I 32) (hr : ∀ j, j < 30 → r1 33 j = ri 33 j) (hl : ∀ j, j < 30 → l1 34 j = rj 34 j) (h10 : A1 10 = A 10) (hA : ∀ g k, g < 30 → k < 3 → A1 (2400 + 4 * g + k) = A (2400 + 4 * g + k)) : GRV I1 r1 l1 A1 := by
  obtain ⟨e, b, c, d⟩ := h
  have h0 : ∀ g, g < 30 → A1 (2400 + 4 * g) = A (2400 + 4 * g) := fun g hg => hA g 0 hg (by decide)
  have z := clampE (A 10)
  refine ⟨by rw [hI, h10]; exact e, by rw [h10]; exact b, fun g hg => ?_, fun g h1 h2 => ?_⟩
  · rw [h10] at hg
    have q := c g hg
    refine ⟨by rw [hr g (by omega), h0 g (by omega)]; exact q.1, fun k hk => ?_⟩
    rw [hl g (by omega), gb_cg (hA g 1 (by omega) (by decide)) (hA g 2 (by omega) (by decide))]
    exact q.2 k hk
  · rw [h10] at h1
    rw [hA g 1 h2 (by decide), hA g 2 h2 (by decide)]
    exact d g h1 h2
theorem ixg {g : Int32} (h0 : 0 ≤ g.toInt) (h1 : g.toInt ≤ 29) : ((2400 : Int32) + (4 : Int32) * g).toInt = 2400 + 4 * g.toInt := i_add (show (2400 : Int32).toInt = 2400 by decide) (i_mul (show (4 : Int32).toInt = 4 by decide) rfl (by omega) (by omega)) (by omega) (by omega)
theorem ixg0 {g : Int32} (h0 : 0 ≤ g.toInt) (h1 : g.toInt ≤ 29) : ((2400 : Int32) + (4 : Int32) * g).toNatClampNeg = 2400 + 4 * g.toNatClampNeg := by
  have e := ixg h0 h1
  have z := clampE ((2400 : Int32) + (4 : Int32) * g)
  have z1 := clampE g
  omega
theorem ixgk {g k : Int32} (m : Nat) (hk : k.toInt = (m : Int)) (hm : m ≤ 3) (h0 : 0 ≤ g.toInt) (h1 : g.toInt ≤ 29) : ((2400 : Int32) + (4 : Int32) * g + k).toNatClampNeg = 2400 + 4 * g.toNatClampNeg + m := by
  have e := i_add (ixg h0 h1) hk (by omega) (by omega)
  have z := clampE ((2400 : Int32) + (4 : Int32) * g + k)
  have z1 := clampE g
  omega
theorem b3_one {c : Int32} (h0 : 0 ≤ c.toInt) (h1 : c.toInt ≤ 31) (j : Nat) (hj : j < 32) : b3 ((1 : Int32) <<< (c &&& 31)) j = decide (j = c.toNatClampNeg) := by
  have z := clampE c
  have hk : c.toNatClampNeg < 32 := by omega
  have e := nf_sh c.toNatClampNeg hk
  rw [← toN h0] at e
  unfold b3
  rw [e, BitVec.getLsbD_twoPow, decide_eq_true hk, Bool.true_and]
  by_cases q : c.toNatClampNeg = j
  · rw [decide_eq_true q, decide_eq_true q.symm]
  · rw [decide_eq_false q, decide_eq_false (fun y => q y.symm)]
theorem b3_sh {x c : Int32} (h0 : 0 ≤ c.toInt) (h1 : c.toInt ≤ 31) : ((x >>> (c &&& 31)) &&& 1) = 0 ↔ b3 x c.toNatClampNeg = false := by
  have z := clampE c
  have hk : c.toNatClampNeg < 32 := by omega
  have one : ∀ i, b3 (1 : Int32) i = decide (i = 0) := fun i => by
    unfold b3
    show (1#32).getLsbD i = _
    rw [BitVec.getLsbD_one]
    by_cases q : i = 0
    · subst q; rfl
    · simp [q]
  have s := b_sshr c.toNatClampNeg hk x (i := 0) (by decide)
  rw [← toN h0, if_pos (by omega), Nat.add_zero] at s
  constructor
  · intro q
    have y := b_and (x >>> (c &&& 31)) 1 0
    rw [q, b_0, one 0, s] at y
    simpa using y.symm
  · intro q
    refine b_ext (fun i hi => ?_)
    rw [b_and, one i, b_0]
    by_cases y : i = 0
    · subst y; rw [s, q]; rfl
    · rw [decide_eq_false y, Bool.and_false]
/-- a grave comes to lie in a cell -/
theorem lies_v {g c : Int32} (g0 : 0 ≤ g.toInt) (g1 : g.toInt ≤ 29) (c0 : 0 ≤ c.toInt) (c1 : c.toInt ≤ 39) : ∃ s1 : Nat → Nat → Int32, g_X12_lies g c U V si sj sq = (U, V, s1, sj, sq) ∧ (∀ t, t ≠ 384 → s1 t = si t) ∧ s1 384 (2400 + 4 * g.toNatClampNeg) = c ∧ (∀ k, k < 40 → gb (s1 384) g.toNatClampNeg k = (gb (si 384) g.toNatClampNeg k || decide (k = c.toNatClampNeg))) ∧ ∀ i, i ≠ 2400 + 4 * g.toNatClampNeg → i ≠ 2400 + 4 * g.toNatClampNeg + 1 → i ≠ 2400 + 4 * g.toNatClampNeg + 2 → s1 384 i = si 384 i := by
  have i0 := ixg0 g0 g1
  have i1 := ixgk (k := 1) 1 (by decide) (by decide) g0 g1
  have i2 := ixgk (k := 2) 2 (by decide) (by decide) g0 g1
  have zc := clampE c
  have k20 : (20 : Int32).toInt = 20 := by decide
  rw [g_X12_lies_e]
  by_cases d : (20 : Int32) ≤ c
  · have d1 := Int32.le_iff_toInt_le.mp d
    have e20 : (c - 20).toInt = c.toInt - 20 := i_sub rfl k20 (by omega) (by omega)
    have z20 := clampE (c - 20)
    simp only [↓ap1_n, if_pos d, i0, i2]
    refine ⟨_, rfl, fun t ht => by rw [va_up_ne _ _ ht, va_up_ne _ _ ht], ?_, fun k hk => ?_, fun i h1 h2 h3 => ?_⟩
    · rw [va_up_self, upd_n _ _ (by omega), va_up_self, upd_s]
    · rw [va_up_self, va_up_self]
      unfold gb
      by_cases q : k < 20
      · rw [if_pos q, if_pos q, upd_n _ _ (by omega), upd_n _ _ (by omega), decide_eq_false (by omega), Bool.or_false]
      · rw [if_neg q, if_neg q, upd_s, upd_n _ _ (by omega), b_or, b3_one (c := c - 20) (by omega) (by omega) _ (by omega)]
        congr 1
        by_cases y : k = c.toNatClampNeg
        · rw [decide_eq_true y, decide_eq_true (by omega)]
        · rw [decide_eq_false y, decide_eq_false (by omega)]
    · rw [va_up_self, upd_n _ _ h3, va_up_self, upd_n _ _ h1]
  · have d1 := Int32.lt_iff_toInt_lt.mp (Int32.not_le.mp d)
    simp only [↓ap1_n, if_neg d, i0, i1]
    refine ⟨_, rfl, fun t ht => by rw [va_up_ne _ _ ht, va_up_ne _ _ ht], ?_, fun k hk => ?_, fun i h1 h2 h3 => ?_⟩
    · rw [va_up_self, upd_n _ _ (by omega), va_up_self, upd_s]
    · rw [va_up_self, va_up_self]
      unfold gb
      by_cases q : k < 20
      · rw [if_pos q, if_pos q, upd_s, upd_n _ _ (by omega), b_or, b3_one c0 (by omega) _ (by omega)]
      · rw [if_neg q, if_neg q, upd_n _ _ (by omega), upd_n _ _ (by omega), decide_eq_false (by omega), Bool.or_false]
    · rw [va_up_self, upd_n _ _ h2, va_up_self, upd_n _ _ h1]
/-- the graves behind a new one or one carried -/
theorem GRV_lies {g : Nat} {c : Int32} {I1 : Nat → Int32} {r1 : Nat → Nat → Int32} {l1 : Nat → Nat → Int64} (h : GRV I ri rj A) (hg : g < 30) (c0 : 0 ≤ c.toInt) (c1 : c.toInt ≤ 39) (h10 : I1 32 = A1 10) (hn : A1 10 = A 10 ∧ g < (A 10).toNatClampNeg ∨ (A1 10).toNatClampNeg = (A 10).toNatClampNeg + 1 ∧ 0 ≤ (A1 10).toInt ∧ g = (A 10).toNatClampNeg) (hr : r1 33 = upd (ri 33) g c) (hl : ∀ j, j < 30 → j ≠ g → l1 34 j = rj 34 j) (hb1 : ∀ k, k < 40 → hb (l1 34 g) k = (gb A g k || decide (k = c.toNatClampNeg))) (a0 : A1 (2400 + 4 * g) = c) (ab : ∀ k, k < 40 → gb A1 g k = (gb A g k || decide (k = c.toNatClampNeg))) (ao : ∀ i, 2400 ≤ i → i < 2520 → i ≠ 2400 + 4 * g → i ≠ 2400 + 4 * g + 1 → i ≠ 2400 + 4 * g + 2 → A1 i = A i) : GRV I1 r1 l1 A1 := by
  obtain ⟨e, b, cc, d⟩ := h
  have z := clampE (A 10)
  have z1 := clampE (A1 10)
  have hle : (A1 10).toNatClampNeg ≤ 30 ∧ (A 10).toNatClampNeg ≤ (A1 10).toNatClampNeg ∧ (∀ j, j < (A1 10).toNatClampNeg → j ≠ g → j < (A 10).toNatClampNeg) := by
    rcases hn with ⟨y, _⟩ | ⟨y, _, y3⟩
    · rw [y]; exact ⟨by omega, by omega, fun j h1 _ => h1⟩
    · exact ⟨by omega, by omega, fun j h1 h2 => by omega⟩
  have hz : 0 ≤ (A1 10).toInt := by
    rcases hn with ⟨y, _⟩ | ⟨_, y, _⟩
    · rw [y]; exact b.1
    · exact y
  refine ⟨h10, ⟨hz, by omega⟩, fun j hj => ?_, fun j h1 h2 => ?_⟩
  · by_cases q : j = g
    · subst q
      refine ⟨by rw [hr, upd_s, a0], fun k hk => ?_⟩
      rw [hb1 k hk, ab k hk]
    · have w := cc j (hle.2.2 j hj q)
      refine ⟨?_, fun k hk => ?_⟩
      · rw [hr, upd_n _ _ q, ao _ (by omega) (by omega) (by omega) (by omega) (by omega)]
        exact w.1
      · rw [hl j (by omega) q, gb_cg (ao _ (by omega) (by omega) (by omega) (by omega) (by omega)) (ao _ (by omega) (by omega) (by omega) (by omega) (by omega))]
        exact w.2 k hk
  · have q : j ≠ g := by
      intro y
      rcases hn with ⟨x, x2⟩ | ⟨x, _, x3⟩
      · rw [x] at h1; omega
      · omega
    rw [ao _ (by omega) (by omega) (by omega) (by omega) (by omega), ao _ (by omega) (by omega) (by omega) (by omega) (by omega)]
    exact d j (by omega) h2
theorem vL_s (f : Nat → Int64) (k : Nat) (v : Int64) : vp_updL f k v k = v := if_pos rfl
theorem vL_n (f : Nat → Int64) {k j : Nat} (v : Int64) (h : j ≠ k) : vp_updL f k v j = f j := if_neg h
/-- GRAVE -/
theorem grave_CG {a0 : Int32} (h : GRV I ri rj (si 384)) (e2 : I 65 = si 384 2) (c0 : 0 ≤ (I 65).toInt) (c4 : (I 65).toInt ≤ 40) : CG (g_X11_grave a0 I J ri rj rq) (g_X12_grave a0 U V si sj sq) := by
  have h' := h
  obtain ⟨e, b, _, d⟩ := h'
  have k30 : (30 : Int32).toInt = 30 := by decide
  have k10 : (10 : Int32).toNatClampNeg = 10 := by decide
  have z := clampE (si 384 10)
  rw [g_X11_grave_e, g_X12_grave_e, isCell_c, isCell_m]
  simp only [bnI_mk]
  rw [← e2]
  by_cases q1 : bt a0 0 (I 65 - 1) = 0
  · simp only [if_pos q1]; exact cg_no h
  · have b1 := bt_cell c0 c4 q1
    simp only [if_neg q1, ↓ap1_n, k10]
    rw [e]
    by_cases q2 : si 384 10 < 30
    · have d2 := Int32.lt_iff_toInt_lt.mp q2
      rw [if_pos q2, if_neg (fun y => by rw [y] at d2; omega), g_X1_dig_e]
      have e32 : I 32 < 30 := by rw [e]; exact q2
      simp only [↓ap1_n, e, if_pos q2]
      obtain ⟨s1, ev, so, s0, sb, sr⟩ := lies_v (g := si 384 10) (c := a0) (U := U) (V := V) (si := si) (sj := sj) (sq := sq) b.1 (by omega) b1.1 (by omega)
      rw [ev]
      simp only [bnV_u, bnI_u]
      have n1 := t1_one (x := si 384 10) (by omega) (by omega)
      have zn := clampE (si 384 10 + 1)
      have u10 : va_up s1 384 (upd (s1 384) 10 (si 384 10 + 1)) 384 10 = si 384 10 + 1 := by rw [va_up_self, upd_s]
      refine ⟨show va_up I 32 (si 384 10 + 1) 32 - 1 = si 384 10 + 1 - 1 by rw [va_up_self], ?_⟩
      show GRV (va_up I 32 (si 384 10 + 1)) (va_up ri 33 (upd (ri 33) (si 384 10).toNatClampNeg a0)) (va_up rj 34 (vp_updL (rj 34) (si 384 10).toNatClampNeg ((1 : Int64) <<< (a0.toInt64 &&& 63)))) (va_up s1 384 (upd (s1 384) 10 (si 384 10 + 1)) 384)
      rw [va_up_self (f := s1)]
      refine GRV_lies (g := (si 384 10).toNatClampNeg) (c := a0) h (by omega) b1.1 (by omega) (by rw [va_up_self, upd_s]) (Or.inr ⟨by rw [upd_s]; omega, by rw [upd_s]; omega, rfl⟩) (by rw [va_up_self]) (fun j _ hj => by rw [va_up_self, vL_n _ _ hj]) (fun k hk => ?_) (by rw [upd_n _ _ (by omega)]; exact s0) (fun k hk => ?_) (fun i i1 i2 n0 n1 n2 => by rw [upd_n _ _ (by omega)]; exact sr i n0 n1 n2)
      · have dz := d _ (Nat.le_refl _) (by omega)
        rw [va_up_self, vL_s, hb_one b1.1 (by omega) k (by omega)]
        unfold gb
        rw [dz.1, dz.2, b_0, b_0, ite_self, Bool.false_or]
        by_cases y : a0.toNatClampNeg = k
        · rw [decide_eq_true y, decide_eq_true y.symm]
        · rw [decide_eq_false y, decide_eq_false (fun w => y w.symm)]
      · rw [gb_cg (upd_n _ _ (by omega)) (upd_n _ _ (by omega))]
        exact sb k hk
    · have d2 := Int32.le_iff_toInt_le.mp (Int32.not_lt.mp q2)
      have y30 : si 384 10 = 30 := Int32.toInt_inj.mp (by omega)
      rw [if_neg q2, if_pos y30]
      exact cg_no h
/-- BURY -/
theorem bury_CG {a0 a1 : Int32} (h : GRV I ri rj (si 384)) (e2 : I 65 = si 384 2) (c0 : 0 ≤ (I 65).toInt) (c4 : (I 65).toInt ≤ 40) : CG (g_X11_bury a0 a1 I J ri rj rq) (g_X12_bury a0 a1 U V si sj sq) := by
  have h' := h
  obtain ⟨e, b, cc, d⟩ := h'
  have z := clampE (si 384 10)
  have za := clampE a0
  rw [g_X11_bury_e, g_X12_bury_e]
  simp only [↓ap1_n, between_b, isIn_b, e]
  by_cases q1 : bt a0 0 (si 384 10 - 1) = 0
  · simp only [if_pos q1]; exact cg_no h
  · have b1 := bt_cell (n := si 384 10) b.1 (by omega) q1
    rw [if_neg q1, if_neg q1, isCell_c, isCell_m]
    simp only [bnI_mk]
    rw [← e2]
    by_cases q2 : bt a1 0 (I 65 - 1) = 0
    · simp only [if_pos q2]; exact cg_no h
    · have b2 := bt_cell c0 c4 q2
      have w := cc a0.toNatClampNeg (by omega)
      rw [if_neg q2, if_neg q2, g_X1_carry_e]
      simp only [↓ap1_n, ixg0 b1.1 (show a0.toInt ≤ 29 by omega)]
      rw [← w.1]
      by_cases q3 : ri 33 a0.toNatClampNeg = a1
      · simp only [if_pos q3, bnI_u]; exact cg_no h
      · obtain ⟨s1, ev, so, s0, sb, sr⟩ := lies_v (g := a0) (c := a1) (U := U) (V := V) (si := si) (sj := sj) (sq := sq) b1.1 (by omega) b2.1 (by omega)
        rw [ev]
        simp only [if_neg q3, bnV_u, bnI_u]
        refine ⟨rfl, ?_⟩
        show GRV I (va_up ri 33 (upd (ri 33) a0.toNatClampNeg a1)) (va_up rj 34 (vp_updL (rj 34) a0.toNatClampNeg (rj 34 a0.toNatClampNeg ||| ((1 : Int64) <<< (a1.toInt64 &&& 63))))) (s1 384)
        have s10 : s1 384 10 = si 384 10 := sr 10 (by omega) (by omega) (by omega)
        refine GRV_lies (g := a0.toNatClampNeg) (c := a1) h (by omega) b2.1 (by omega) (by rw [s10]; exact e) (Or.inl ⟨s10, by omega⟩) (by rw [va_up_self]) (fun j _ hj => by rw [va_up_self, vL_n _ _ hj]) (fun k hk => ?_) s0 sb (fun i _ _ n0 n1 n2 => sr i n0 n1 n2)
        rw [va_up_self, vL_s, hb_or b2.1 (by omega) k (by omega), w.2 k hk]
        congr 1
        by_cases y : a1.toNatClampNeg = k
        · rw [decide_eq_true y, decide_eq_true y.symm]
        · rw [decide_eq_false y, decide_eq_false (fun w => y w.symm)]
/-- FOUND -/
theorem bitg {g c : Int32} (g0 : 0 ≤ g.toInt) (g1 : g.toInt ≤ 29) (c0 : 0 ≤ c.toInt) (c1 : c.toInt ≤ 39) : ((if (20 : Int32) ≤ c then A ((2400 : Int32) + (4 : Int32) * g + 2).toNatClampNeg >>> ((c - 20) &&& 31) else A ((2400 : Int32) + (4 : Int32) * g + 1).toNatClampNeg >>> (c &&& 31)) &&& 1) = 0 ↔ gb A g.toNatClampNeg c.toNatClampNeg = false := by
  have i1 := ixgk (k := 1) 1 (by decide) (by decide) g0 g1
  have i2 := ixgk (k := 2) 2 (by decide) (by decide) g0 g1
  have zc := clampE c
  have k20 : (20 : Int32).toInt = 20 := by decide
  rw [i1, i2]
  unfold gb
  by_cases d : (20 : Int32) ≤ c
  · have d1 := Int32.le_iff_toInt_le.mp d
    have e20 : (c - 20).toInt = c.toInt - 20 := i_sub rfl k20 (by omega) (by omega)
    have z20 := clampE (c - 20)
    rw [if_pos d, if_neg (by omega), b3_sh (c := c - 20) (by omega) (by omega), show (c - 20).toNatClampNeg = c.toNatClampNeg - 20 by omega]
  · have d1 := Int32.lt_iff_toInt_lt.mp (Int32.not_le.mp d)
    rw [if_neg d, if_pos (by omega), b3_sh c0 (by omega)]
theorem found_l {a0 a1 : Int32} (h : GRV I ri rj (si 384)) (c0 : 0 ≤ a0.toInt) (c1 : a0.toInt ≤ 39) : ∀ (n : Nat) (x p q : Int32), 0 ≤ x.toInt → (30 - x.toInt).toNat < n → x.toInt ≤ 30 → 0 ≤ p.toInt → p.toInt ≤ x.toInt → 0 ≤ q.toInt → q.toInt = a1.toInt - p.toInt → (g_X1_whereNow_L5 a0 a1 I J ri rj rq n p x).1 = (g_X12_found_L19 a0 U V si sj sq n q x).1 := by
  obtain ⟨e, b, cc, d⟩ := h
  have z := clampE (si 384 10)
  intro n
  induction n with
  | zero => intro x _ _ _ h; exact absurd h (Nat.not_lt_zero _)
  | succ n ih =>
    intro x p q h1 h2 h3 h4 h5 h6 h7
    have zx := clampE x
    rw [g_X1_whereNow_L5_e, g_X12_found_L19_e]
    simp only [↓ap1_n, e]
    by_cases dx : si 384 10 ≤ x
    · rw [if_pos dx, if_pos dx]
    · rw [if_neg dx, if_neg dx]
      have dx1 := Int32.lt_iff_toInt_lt.mp (Int32.not_le.mp dx)
      have w := cc x.toNatClampNeg (by omega)
      have za := clampE a0
      have wb := w.2 a0.toNatClampNeg (by omega)
      have bg := bitg (A := si 384) (g := x) (c := a0) h1 (by omega) c0 c1
      obtain ⟨x', ex, xi⟩ : ∃ x' : Int32, x + Int32.ofInt 1 = x' ∧ x'.toInt = x.toInt + 1 := ⟨_, rfl, t1_inc (x := x) (by omega) (by omega)⟩
      have i0 := ixg0 (g := x) h1 (by omega)
      rw [hasBit_v c0 (by omega), wb]
      have go : (if (if gb (si 384) x.toNatClampNeg a0.toNatClampNeg = true then (1 : Int32) else 0) = 0 then g_X1_whereNow_K44 x (g_X1_whereNow_L5 a0 a1 I J ri rj rq n) p else if p = a1 then (ri 33 x.toNatClampNeg, I, J, ri, rj, rq) else g_X1_whereNow_K44 x (g_X1_whereNow_L5 a0 a1 I J ri rj rq n) (p + Int32.ofInt 1)).1 = (g_X12_found_K75 U V si sj sq q x (g_X12_found_L19 a0 U V si sj sq n) ((2400 : Int32) + (4 : Int32) * x) (if (20 : Int32) ≤ a0 then si 384 ((2400 : Int32) + (4 : Int32) * x + 2).toNatClampNeg >>> ((a0 - 20) &&& 31) else si 384 ((2400 : Int32) + (4 : Int32) * x + 1).toNatClampNeg >>> (a0 &&& 31))).1 := by
        rw [g_X12_found_K75_e]
        simp only [↓ap1_n, g_X1_whereNow_K44, g_X12_found_K102]
        by_cases g : gb (si 384) x.toNatClampNeg a0.toNatClampNeg = true
        · rw [if_pos g, if_neg (by decide), if_neg (mt bg.mp (by rw [g]; decide))]
          by_cases pe : p = a1
          · have q0 : q = 0 := Int32.toInt_inj.mp (by rw [h7, pe]; show a1.toInt - a1.toInt = 0; omega)
            rw [if_pos pe, if_pos q0, i0]
            exact w.1
          · have q0 : q ≠ 0 := fun y => pe (Int32.toInt_inj.mp (by
              have y2 := congrArg Int32.toInt y
              have y3 : (0 : Int32).toInt = 0 := rfl
              omega))
            have q1 : q.toInt ≠ 0 := fun y => q0 (Int32.toInt_inj.mp y)
            have l := a1.toInt_lt
            obtain ⟨p', ep, pi⟩ : ∃ p' : Int32, p + Int32.ofInt 1 = p' ∧ p'.toInt = p.toInt + 1 := ⟨_, rfl, t1_inc (x := p) (by omega) (by omega)⟩
            obtain ⟨q', eq, qi⟩ : ∃ q' : Int32, q + Int32.ofInt (-1) = q' ∧ q'.toInt = q.toInt - 1 := ⟨_, rfl, i_add rfl (show (Int32.ofInt (-1)).toInt = -1 by decide) (by omega) (by omega)⟩
            rw [if_neg pe, if_neg q0, ex, ep, eq]
            exact ih x' p' q' (by omega) (by omega) (by omega) (by omega) (by omega) (by omega) (by omega)
        · have g2 : gb (si 384) x.toNatClampNeg a0.toNatClampNeg = false := by simpa using g
          rw [if_neg g, if_pos rfl, if_pos (bg.mpr g2), ex]
          exact ih x' _ _ (by omega) (by omega) (by omega) h4 (by omega) h6 h7
      by_cases k : (20 : Int32) ≤ a0
      · simp only [if_pos k] at go ⊢
        exact go
      · simp only [if_neg k] at go ⊢
        exact go
theorem found_v {a0 a1 : Int32} (h : GRV I ri rj (si 384)) (e2 : I 65 = si 384 2) (c0 : 0 ≤ (I 65).toInt) (c4 : (I 65).toInt ≤ 40) : (g_X11_found a0 a1 I J ri rj rq).1 = (g_X12_found a0 a1 U V si sj sq).1 := by
  rw [g_X11_found_e, g_X12_found_e, isCell_c, isCell_m]
  simp only [bnI_mk]
  rw [← e2]
  by_cases q1 : bt a0 0 (I 65 - 1) = 0
  · rw [if_pos q1, if_pos q1]
    rfl
  · have b1 := bt_cell c0 c4 q1
    have k0 : (0 : Int32).toInt = 0 := by decide
    rw [if_neg q1, if_neg q1]
    by_cases q2 : a1 < 0
    · rw [if_pos q2, if_neg (fun y => by
        have y1 := Int32.le_iff_toInt_le.mp y
        have y2 := Int32.lt_iff_toInt_lt.mp q2
        omega)]
      rfl
    · have y1 := Int32.le_iff_toInt_le.mp (Int32.not_lt.mp q2)
      rw [if_neg q2, if_pos (Int32.not_lt.mp q2), g_X1_whereNow_e]
      show (g_X1_whereNow_L5 a0 a1 I J ri rj rq ((30 - ((0 : Int32)).toInt).toNat + 1) (0 : Int32) (0 : Int32)).1 = _
      exact found_l h b1.1 (by omega) _ _ _ _ (by omega) (Nat.lt_succ_self _) (by omega) (by omega) (by omega) (by omega) (by omega)
/-! a copy of all: the graves -/
section CPG
variable {nI : Nat → Int32} {nJ : Nat → Int64} {nR : Nat → Nat → Int32} {nL : Nat → Nat → Int64} {nQ : Nat → Nat → Option Nat}
def QG (nI : Nat → Int32) (nR : Nat → Nat → Int32) (nL : Nat → Nat → Int64) (b : vM) : Prop := b.1 32 = nI 32 ∧ (∀ j, j < 30 → b.2.2.1 33 j = nR 33 j) ∧ ∀ j, j < 30 → b.2.2.2.1 34 j = nL 34 j
theorem cpy_L {f g : Nat → Int64} {n j : Nat} (h : j < n) : va_cpy f g 0 0 n j = f j := by
  unfold va_cpy
  rw [if_pos ⟨Nat.zero_le _, by omega⟩, show 0 + (j - 0) = j from by omega]
theorem bV_all {P : vM → Prop} {p : vM} {k : (Nat → Int32) → (Nat → Int64) → (Nat → Nat → Int32) → (Nat → Nat → Int64) → (Nat → Nat → Option Nat) → vM} (h : ∀ a b c d e, P (k a b c d e)) : P (bnV p k) := h _ _ _ _ _
theorem cp1 : QG nI nR nL (g_X1_copyFrom nI nR nL I J ri rj rq) := by
  have z0 : (0 : Int32).toNatClampNeg = 0 := by decide
  have z30 : (30 : Int32).toNatClampNeg = 30 := by decide
  rw [g_X1_copyFrom_e]
  simp only [↓ap1_n, z0, z30]
  refine ⟨show va_up I 32 (nI 32) 32 = nI 32 from va_up_self _ _ _, fun j hj => ?_, fun j hj => ?_⟩
  · show va_up ri 33 (va_cpy (nR 33) (ri 33) 0 0 30) 33 j = nR 33 j
    rw [va_up_self]
    exact cpy_v hj
  · show va_up rj 34 (va_cpy (nL 34) (rj 34) 0 0 30) 34 j = nL 34 j
    rw [va_up_self]
    exact cpy_L hj
theorem copyFrom_g : QG nI nR nL (g_X10_copyFrom nI nJ nR nL nQ I J ri rj rq) := by
  rw [g_X10_copyFrom_e]
  simp only [↓ap1_n]
  refine bV_all (fun _ _ _ _ _ => ?_)
  refine bV_all (fun _ _ _ _ _ => ?_)
  refine bV_all (fun _ _ _ _ _ => ?_)
  refine bV_all (fun _ _ _ _ _ => ?_)
  exact cp1
theorem image_g {r : Int32} {I1 : Nat → Int32} {J1 : Nat → Int64} {r1 : Nat → Nat → Int32} {l1 : Nat → Nat → Int64} {q1 : Nat → Nat → Option Nat} (e : g_X11_image nI nJ nR nL nQ I J ri rj rq = (r, I1, J1, r1, l1, q1)) : QG nI nR nL (I1, J1, r1, l1, q1) := by
  have h : QG nI nR nL (g_X10_copyFrom nI nJ nR nL nQ I J ri rj rq) := copyFrom_g
  rw [g_X11_image_e] at e
  generalize g_X10_copyFrom nI nJ nR nL nQ I J ri rj rq = p at h e
  obtain ⟨a, b, c, d, f⟩ := p
  have e2 : ((nI 320, a, b, c, d, f) : Int32 × vM) = (r, I1, J1, r1, l1, q1) := e
  exact (Prod.mk.inj e2).2 ▸ h
theorem back_g {r : Int32} {I1 : Nat → Int32} {J1 : Nat → Int64} {r1 : Nat → Nat → Int32} {l1 : Nat → Nat → Int64} {q1 : Nat → Nat → Option Nat} (e : g_X11_back nI nJ nR nL nQ I J ri rj rq = (r, I1, J1, r1, l1, q1)) : QG nI nR nL (I1, J1, r1, l1, q1) := by
  have h : QG nI nR nL (g_X10_copyFrom nI nJ nR nL nQ I J ri rj rq) := copyFrom_g
  rw [g_X11_back_e] at e
  generalize g_X10_copyFrom nI nJ nR nL nQ I J ri rj rq = p at h e
  obtain ⟨a, b, c, d, f⟩ := p
  have e2 : ((a 320, a, b, c, d, f) : Int32 × vM) = (r, I1, J1, r1, l1, q1) := e
  exact (Prod.mk.inj e2).2 ▸ h
end CPG
end PU17
