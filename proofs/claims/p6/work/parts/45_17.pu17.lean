/-! ===== pure: graves of both sides ===== -/
section PU17
variable {I : Nat → Int32} {J : Nat → Int64} {ri : Nat → Nat → Int32} {rj : Nat → Nat → Int64} {rq : Nat → Nat → Option Nat}
variable {U : Nat → Int32} {V : Nat → Int64} {si : Nat → Nat → Int32} {sj : Nat → Nat → Int64} {sq : Nat → Nat → Option Nat}
variable {A A1 : Nat → Int32}
/-- whether a grave has lain in a cell, as the reference holds it -/
def gb (A : Nat → Int32) (g c : Nat) : Bool := if c < 20 then b3 (A (2400 + 4 * g + 1)) c else b3 (A (2400 + 4 * g + 2)) (c - 20)
/-- the graves of both sides -/
def GRV (I : Nat → Int32) (ri : Nat → Nat → Int32) (rj : Nat → Nat → Int64) (A : Nat → Int32) : Prop := I 32 = A 10 ∧ (0 ≤ (A 10).toInt ∧ (A 10).toInt ≤ 30) ∧ (∀ g, g < (A 10).toNatClampNeg → ri 33 g = A (2400 + 4 * g) ∧ ∀ c, c < 40 → hb (rj 34 g) c = gb A g c) ∧ ∀ g, (A 10).toNatClampNeg ≤ g → g < 30 → A (2400 + 4 * g + 1) = 0 ∧ A (2400 + 4 * g + 2) = 0
def CG (b c : Int32 × vM) : Prop := b.1 = c.1 ∧ GRV b.2.1 b.2.2.2.1 b.2.2.2.2.1 (c.2.2.2.1 384)
theorem cg_no {v : Int32} (h : GRV I ri rj (si 384)) : CG (v, I, J, ri, rj, rq) (v, U, V, si, sj, sq) := ⟨rfl, h⟩
theorem gb_cg {g c : Nat} (h1 : A1 (2400 + 4 * g + 1) = A (2400 + 4 * g + 1)) (h2 : A1 (2400 + 4 * g + 2) = A (2400 + 4 * g + 2)) : gb A1 g c = gb A g c := by
  unfold gb
  rw [h1, h2]
theorem GRV_cg {I1 : Nat → Int32} {r1 : Nat → Nat → Int32} {l1 : Nat → Nat → Int64} (h : GRV I ri rj A) (hI : I1 32 = I 32) (hr : ∀ j, j < 30 → r1 33 j = ri 33 j) (hl : ∀ j, j < 30 → l1 34 j = rj 34 j) (h10 : A1 10 = A 10) (hA : ∀ g k, g < 30 → k < 3 → A1 (2400 + 4 * g + k) = A (2400 + 4 * g + k)) : GRV I1 r1 l1 A1 := by
  obtain ⟨e, b, c, d⟩ := h
  have h0 : ∀ g, g < 30 → A1 (2400 + 4 * g) = A (2400 + 4 * g) := fun g hg => hA g 0 hg (by decide)
  have z := clampE (A 10)
  refine ⟨by rw [hI, h10]; exact e, by rw [h10]; exact b, fun g hg => ?_, fun g h1 h2 => ?_⟩
  · rw [h10] at hg
    have q := c g hg
    refine ⟨by rw [hr g (by omega), h0 g (by omega)]; exact q.1, fun k hk => ?_⟩
    rw [hl g (by omega), gb_cg (hA g 1 (by omega) (by decide)) (hA g 2 (by omega) (by decide))]
    exact q.2 k hk
  · rw [h10] at h1
    rw [hA g 1 h2 (by decide), hA g 2 h2 (by decide)]
    exact d g h1 h2
theorem ixg {g : Int32} (h0 : 0 ≤ g.toInt) (h1 : g.toInt ≤ 29) : ((2400 : Int32) + (4 : Int32) * g).toInt = 2400 + 4 * g.toInt := i_add (show (2400 : Int32).toInt = 2400 by decide) (i_mul (show (4 : Int32).toInt = 4 by decide) rfl (by omega) (by omega)) (by omega) (by omega)
theorem ixg0 {g : Int32} (h0 : 0 ≤ g.toInt) (h1 : g.toInt ≤ 29) : ((2400 : Int32) + (4 : Int32) * g).toNatClampNeg = 2400 + 4 * g.toNatClampNeg := by
  have e := ixg h0 h1
  have z := clampE ((2400 : Int32) + (4 : Int32) * g)
  have z1 := clampE g
  omega
theorem ixgk {g k : Int32} (m : Nat) (hk : k.toInt = (m : Int)) (hm : m ≤ 3) (h0 : 0 ≤ g.toInt) (h1 : g.toInt ≤ 29) : ((2400 : Int32) + (4 : Int32) * g + k).toNatClampNeg = 2400 + 4 * g.toNatClampNeg + m := by
  have e := i_add (ixg h0 h1) hk (by omega) (by omega)
  have z := clampE ((2400 : Int32) + (4 : Int32) * g + k)
  have z1 := clampE g
  omega
theorem b3_one {c : Int32} (h0 : 0 ≤ c.toInt) (h1 : c.toInt ≤ 31) (j : Nat) (hj : j < 32) : b3 ((1 : Int32) <<< (c &&& 31)) j = decide (j = c.toNatClampNeg) := by
  have z := clampE c
  have hk : c.toNatClampNeg < 32 := by omega
  have e := nf_sh c.toNatClampNeg hk
  rw [← toN h0] at e
  unfold b3
  rw [e, BitVec.getLsbD_twoPow, decide_eq_true hk, Bool.true_and]
  by_cases q : c.toNatClampNeg = j
  · rw [decide_eq_true q, decide_eq_true q.symm]
  · rw [decide_eq_false q, decide_eq_false (fun y => q y.symm)]
theorem b3_sh {x c : Int32} (h0 : 0 ≤ c.toInt) (h1 : c.toInt ≤ 31) : ((x >>> (c &&& 31)) &&& 1) = 0 ↔ b3 x c.toNatClampNeg = false := by
  have z := clampE c
  have hk : c.toNatClampNeg < 32 := by omega
  have one : ∀ i, b3 (1 : Int32) i = decide (i = 0) := fun i => by
    unfold b3
    show (1#32).getLsbD i = _
    rw [BitVec.getLsbD_one]
    by_cases q : i = 0
    · subst q; rfl
    · simp [q]
  have s := b_sshr c.toNatClampNeg hk x (i := 0) (by decide)
  rw [← toN h0, if_pos (by omega), Nat.add_zero] at s
  constructor
  · intro q
    have y := b_and (x >>> (c &&& 31)) 1 0
    rw [q, b_0, one 0, s] at y
    simpa using y.symm
  · intro q
    refine b_ext (fun i hi => ?_)
    rw [b_and, one i, b_0]
    by_cases y : i = 0
    · subst y; rw [s, q]; rfl
    · rw [decide_eq_false y, Bool.and_false]
/-- a grave comes to lie in a cell -/
theorem lies_v {g c : Int32} (g0 : 0 ≤ g.toInt) (g1 : g.toInt ≤ 29) (c0 : 0 ≤ c.toInt) (c1 : c.toInt ≤ 39) : ∃ s1 : Nat → Nat → Int32, g_X12_lies g c U V si sj sq = (U, V, s1, sj, sq) ∧ (∀ t, t ≠ 384 → s1 t = si t) ∧ s1 384 (2400 + 4 * g.toNatClampNeg) = c ∧ (∀ k, k < 40 → gb (s1 384) g.toNatClampNeg k = (gb (si 384) g.toNatClampNeg k || decide (k = c.toNatClampNeg))) ∧ ∀ i, i ≠ 2400 + 4 * g.toNatClampNeg → i ≠ 2400 + 4 * g.toNatClampNeg + 1 → i ≠ 2400 + 4 * g.toNatClampNeg + 2 → s1 384 i = si 384 i := by
  have i0 := ixg0 g0 g1
  have i1 := ixgk (k := 1) 1 (by decide) (by decide) g0 g1
  have i2 := ixgk (k := 2) 2 (by decide) (by decide) g0 g1
  have zc := clampE c
  have k20 : (20 : Int32).toInt = 20 := by decide
  rw [g_X12_lies_e]
  by_cases d : (20 : Int32) ≤ c
  · have d1 := Int32.le_iff_toInt_le.mp d
    have e20 : (c - 20).toInt = c.toInt - 20 := i_sub rfl k20 (by omega) (by omega)
    have z20 := clampE (c - 20)
    simp only [↓ap1_n, if_pos d, i0, i2]
    refine ⟨_, rfl, fun t ht => by rw [va_up_ne _ _ ht, va_up_ne _ _ ht], ?_, fun k hk => ?_, fun i h1 h2 h3 => ?_⟩
    · rw [va_up_self, upd_n _ _ (by omega), va_up_self, upd_s]
    · rw [va_up_self, va_up_self]
      unfold gb
      by_cases q : k < 20
      · rw [if_pos q, if_pos q, upd_n _ _ (by omega), upd_n _ _ (by omega), decide_eq_false (by omega), Bool.or_false]
      · rw [if_neg q, if_neg q, upd_s, upd_n _ _ (by omega), b_or, b3_one (c := c - 20) (by omega) (by omega) _ (by omega)]
        congr 1
        by_cases y : k = c.toNatClampNeg
        · rw [decide_eq_true y, decide_eq_true (by omega)]
        · rw [decide_eq_false y, decide_eq_false (by omega)]
    · rw [va_up_self, upd_n _ _ h3, va_up_self, upd_n _ _ h1]
  · have d1 := Int32.lt_iff_toInt_lt.mp (Int32.not_le.mp d)
    simp only [↓ap1_n, if_neg d, i0, i1]
    refine ⟨_, rfl, fun t ht => by rw [va_up_ne _ _ ht, va_up_ne _ _ ht], ?_, fun k hk => ?_, fun i h1 h2 h3 => ?_⟩
    · rw [va_up_self, upd_n _ _ (by omega), va_up_self, upd_s]
    · rw [va_up_self, va_up_self]
      unfold gb
      by_cases q : k < 20
      · rw [if_pos q, if_pos q, upd_s, upd_n _ _ (by omega), b_or, b3_one c0 (by omega) _ (by omega)]
      · rw [if_neg q, if_neg q, upd_n _ _ (by omega), upd_n _ _ (by omega), decide_eq_false (by omega), Bool.or_false]
    · rw [va_up_self, upd_n _ _ h2, va_up_self, upd_n _ _ h1]
/-- the graves behind a new one or one carried -/
theorem GRV_lies {g : Nat} {c : Int32} {I1 : Nat → Int32} {r1 : Nat → Nat → Int32} {l1 : Nat → Nat → Int64} (h : GRV I ri rj A) (hg : g < 30) (c0 : 0 ≤ c.toInt) (c1 : c.toInt ≤ 39) (h10 : I1 32 = A1 10) (hn : A1 10 = A 10 ∧ g < (A 10).toNatClampNeg ∨ (A1 10).toNatClampNeg = (A 10).toNatClampNeg + 1 ∧ 0 ≤ (A1 10).toInt ∧ g = (A 10).toNatClampNeg) (hr : r1 33 = upd (ri 33) g c) (hl : ∀ j, j < 30 → j ≠ g → l1 34 j = rj 34 j) (hb1 : ∀ k, k < 40 → hb (l1 34 g) k = (gb A g k || decide (k = c.toNatClampNeg))) (a0 : A1 (2400 + 4 * g) = c) (ab : ∀ k, k < 40 → gb A1 g k = (gb A g k || decide (k = c.toNatClampNeg))) (ao : ∀ i, 2400 ≤ i → i < 2520 → i ≠ 2400 + 4 * g → i ≠ 2400 + 4 * g + 1 → i ≠ 2400 + 4 * g + 2 → A1 i = A i) : GRV I1 r1 l1 A1 := by
  obtain ⟨e, b, cc, d⟩ := h
  have z := clampE (A 10)
  have z1 := clampE (A1 10)
  have hle : (A1 10).toNatClampNeg ≤ 30 ∧ (A 10).toNatClampNeg ≤ (A1 10).toNatClampNeg ∧ (∀ j, j < (A1 10).toNatClampNeg → j ≠ g → j < (A 10).toNatClampNeg) := by
    rcases hn with ⟨y, _⟩ | ⟨y, _, y3⟩
    · rw [y]; exact ⟨by omega, by omega, fun j h1 _ => h1⟩
    · exact ⟨by omega, by omega, fun j h1 h2 => by omega⟩
  have hz : 0 ≤ (A1 10).toInt := by
    rcases hn with ⟨y, _⟩ | ⟨_, y, _⟩
    · rw [y]; exact b.1
    · exact y
  refine ⟨h10, ⟨hz, by omega⟩, fun j hj => ?_, fun j h1 h2 => ?_⟩
  · by_cases q : j = g
    · subst q
      refine ⟨by rw [hr, upd_s, a0], fun k hk => ?_⟩
      rw [hb1 k hk, ab k hk]
    · have w := cc j (hle.2.2 j hj q)
      refine ⟨?_, fun k hk => ?_⟩
      · rw [hr, upd_n _ _ q, ao _ (by omega) (by omega) (by omega) (by omega) (by omega)]
        exact w.1
      · rw [hl j (by omega) q, gb_cg (ao _ (by omega) (by omega) (by omega) (by omega) (by omega)) (ao _ (by omega) (by omega) (by omega) (by omega) (by omega))]
        exact w.2 k hk
  · have q : j ≠ g := by
      intro y
      rcases hn with ⟨x, x2⟩ | ⟨x, _, x3⟩
      · rw [x] at h1; omega
      · omega
    rw [ao _ (by omega) (by omega) (by omega) (by omega) (by omega), ao _ (by omega) (by omega) (by omega) (by omega) (by omega)]
    exact d j (by omega) h2
theorem vL_s (f : Nat → Int64) (k : Nat) (v : Int64) : vp_updL f k v k = v := if_pos rfl
theorem vL_n (f : Nat → Int64) {k j : Nat} (v : Int64) (h : j ≠ k) : vp_updL f k v j = f j := if_neg h
/-- GRAVE -/
theorem grave_CG {a0 : Int32} (h : GRV I ri rj (si 384)) (e2 : I 65 = si 384 2) (c0 : 0 ≤ (I 65).toInt) (c4 : (I 65).toInt ≤ 40) : CG (g_X11_grave a0 I J ri rj rq) (g_X12_grave a0 U V si sj sq) := by
  have h' := h
  obtain ⟨e, b, _, d⟩ := h'
  have k30 : (30 : Int32).toInt = 30 := by decide
  have k10 : (10 : Int32).toNatClampNeg = 10 := by decide
  have z := clampE (si 384 10)
  rw [g_X11_grave_e, g_X12_grave_e, isCell_c, isCell_m]
  simp only [bnI_mk]
  rw [← e2]
  by_cases q1 : bt a0 0 (I 65 - 1) = 0
  · simp only [if_pos q1]; exact cg_no h
  · have b1 := bt_cell c0 c4 q1
    simp only [if_neg q1, ↓ap1_n, k10]
    rw [e]
    by_cases q2 : si 384 10 < 30
    · have d2 := Int32.lt_iff_toInt_lt.mp q2
      rw [if_pos q2, if_neg (fun y => by rw [y] at d2; omega), g_X1_dig_e]
      have e32 : I 32 < 30 := by rw [e]; exact q2
      simp only [↓ap1_n, e, if_pos q2]
      obtain ⟨s1, ev, so, s0, sb, sr⟩ := lies_v (g := si 384 10) (c := a0) (U := U) (V := V) (si := si) (sj := sj) (sq := sq) b.1 (by omega) b1.1 (by omega)
      rw [ev]
      simp only [bnV_u, bnI_u]
      have n1 := t1_one (x := si 384 10) (by omega) (by omega)
      have zn := clampE (si 384 10 + 1)
      have u10 : va_up s1 384 (upd (s1 384) 10 (si 384 10 + 1)) 384 10 = si 384 10 + 1 := by rw [va_up_self, upd_s]
      refine ⟨show va_up I 32 (si 384 10 + 1) 32 - 1 = si 384 10 + 1 - 1 by rw [va_up_self], ?_⟩
      show GRV (va_up I 32 (si 384 10 + 1)) (va_up ri 33 (upd (ri 33) (si 384 10).toNatClampNeg a0)) (va_up rj 34 (vp_updL (rj 34) (si 384 10).toNatClampNeg ((1 : Int64) <<< (a0.toInt64 &&& 63)))) (va_up s1 384 (upd (s1 384) 10 (si 384 10 + 1)) 384)
      rw [va_up_self (f := s1)]
      refine GRV_lies (g := (si 384 10).toNatClampNeg) (c := a0) h (by omega) b1.1 (by omega) (by rw [va_up_self, upd_s]) (Or.inr ⟨by rw [upd_s]; omega, by rw [upd_s]; omega, rfl⟩) (by rw [va_up_self]) (fun j _ hj => by rw [va_up_self, vL_n _ _ hj]) (fun k hk => ?_) (by rw [upd_n _ _ (by omega)]; exact s0) (fun k hk => ?_) (fun i i1 i2 n0 n1 n2 => by rw [upd_n _ _ (by omega)]; exact sr i n0 n1 n2)
      · have dz := d _ (Nat.le_refl _) (by omega)
        rw [va_up_self, vL_s, hb_one b1.1 (by omega) k (by omega)]
        unfold gb
        rw [dz.1, dz.2, b_0, b_0, ite_self, Bool.false_or]
        by_cases y : a0.toNatClampNeg = k
        · rw [decide_eq_true y, decide_eq_true y.symm]
        · rw [decide_eq_false y, decide_eq_false (fun w => y w.symm)]
      · rw [gb_cg (upd_n _ _ (by omega)) (upd_n _ _ (by omega))]
        exact sb k hk
    · have d2 := Int32.le_iff_toInt_le.mp (Int32.not_lt.mp q2)
      have y30 : si 384 10 = 30 := Int32.toInt_inj.mp (by omega)
      rw [if_neg q2, if_pos y30]
      exact cg_no h
/-- BURY -/
theorem bury_CG {a0 a1 : Int32} (h : GRV I ri rj (si 384)) (e2 : I 65 = si 384 2) (c0 : 0 ≤ (I 65).toInt) (c4 : (I 65).toInt ≤ 40) : CG (g_X11_bury a0 a1 I J ri rj rq) (g_X12_bury a0 a1 U V si sj sq) := by
  have h' := h
  obtain ⟨e, b, cc, d⟩ := h'
  have z := clampE (si 384 10)
  have za := clampE a0
  rw [g_X11_bury_e, g_X12_bury_e]
  simp only [↓ap1_n, between_b, isIn_b, e]
  by_cases q1 : bt a0 0 (si 384 10 - 1) = 0
  · simp only [if_pos q1]; exact cg_no h
  · have b1 := bt_cell (n := si 384 10) b.1 (by omega) q1
    rw [if_neg q1, if_neg q1, isCell_c, isCell_m]
    simp only [bnI_mk]
    rw [← e2]
    by_cases q2 : bt a1 0 (I 65 - 1) = 0
    · simp only [if_pos q2]; exact cg_no h
    · have b2 := bt_cell c0 c4 q2
      have w := cc a0.toNatClampNeg (by omega)
      rw [if_neg q2, if_neg q2, g_X1_carry_e]
      simp only [↓ap1_n, ixg0 b1.1 (show a0.toInt ≤ 29 by omega)]
      rw [← w.1]
      by_cases q3 : ri 33 a0.toNatClampNeg = a1
      · simp only [if_pos q3, bnI_u]; exact cg_no h
      · obtain ⟨s1, ev, so, s0, sb, sr⟩ := lies_v (g := a0) (c := a1) (U := U) (V := V) (si := si) (sj := sj) (sq := sq) b1.1 (by omega) b2.1 (by omega)
        rw [ev]
        simp only [if_neg q3, bnV_u, bnI_u]
        refine ⟨rfl, ?_⟩
        show GRV I (va_up ri 33 (upd (ri 33) a0.toNatClampNeg a1)) (va_up rj 34 (vp_updL (rj 34) a0.toNatClampNeg (rj 34 a0.toNatClampNeg ||| ((1 : Int64) <<< (a1.toInt64 &&& 63))))) (s1 384)
        have s10 : s1 384 10 = si 384 10 := sr 10 (by omega) (by omega) (by omega)
        refine GRV_lies (g := a0.toNatClampNeg) (c := a1) h (by omega) b2.1 (by omega) (by rw [s10]; exact e) (Or.inl ⟨s10, by omega⟩) (by rw [va_up_self]) (fun j _ hj => by rw [va_up_self, vL_n _ _ hj]) (fun k hk => ?_) s0 sb (fun i _ _ n0 n1 n2 => sr i n0 n1 n2)
        rw [va_up_self, vL_s, hb_or b2.1 (by omega) k (by omega), w.2 k hk]
        congr 1
        by_cases y : a1.toNatClampNeg = k
        · rw [decide_eq_true y, decide_eq_true y.symm]
        · rw [decide_eq_false y, decide_eq_false (fun w => y w.symm)]
/-- FOUND -/
theorem bitg {g c : Int32} (g0 : 0 ≤ g.toInt) (g1 : g.toInt ≤ 29) (c0 : 0 ≤ c.toInt) (c1 : c.toInt ≤ 39) : ((if (20 : Int32) ≤ c then A ((2400 : Int32) + (4 : Int32) * g + 2).toNatClampNeg >>> ((c - 20) &&& 31) else A ((2400 : Int32) + (4 : Int32) * g + 1).toNatClampNeg >>> (c &&& 31)) &&& 1) = 0 ↔ gb A g.toNatClampNeg c.toNatClampNeg = false := by
  have i1 := ixgk (k := 1) 1 (by decide) (by decide) g0 g1
  have i2 := ixgk (k := 2) 2 (by decide) (by decide) g0 g1
  have zc := clampE c
  have k20 : (20 : Int32).toInt = 20 := by decide
  rw [i1, i2]
  unfold gb
  by_cases d : (20 : Int32) ≤ c
  · have d1 := Int32.le_iff_toInt_le.mp d
    have e20 : (c - 20).toInt = c.toInt - 20 := i_sub rfl k20 (by omega) (by omega)
    have z20 := clampE (c - 20)
    rw [if_pos d, if_neg (by omega), b3_sh (c := c - 20) (by omega) (by omega), show (c - 20).toNatClampNeg = c.toNatClampNeg - 20 by omega]
  · have d1 := Int32.lt_iff_toInt_lt.mp (Int32.not_le.mp d)
    rw [if_neg d, if_pos (by omega), b3_sh c0 (by omega)]
theorem found_l {a0 a1 : Int32} (h : GRV I ri rj (si 384)) (c0 : 0 ≤ a0.toInt) (c1 : a0.toInt ≤ 39) : ∀ (n : Nat) (x p q : Int32), 0 ≤ x.toInt → (30 - x.toInt).toNat < n → x.toInt ≤ 30 → 0 ≤ p.toInt → p.toInt ≤ x.toInt → 0 ≤ q.toInt → q.toInt = a1.toInt - p.toInt → (g_X1_whereNow_L5 a0 a1 I J ri rj rq n p x).1 = (g_X12_found_L19 a0 U V si sj sq n q x).1 := by
  obtain ⟨e, b, cc, d⟩ := h
  have z := clampE (si 384 10)
  intro n
  induction n with
  | zero => intro x _ _ _ h; exact absurd h (Nat.not_lt_zero _)
  | succ n ih =>
    intro x p q h1 h2 h3 h4 h5 h6 h7
    have zx := clampE x
    rw [g_X1_whereNow_L5_e, g_X12_found_L19_e]
    simp only [↓ap1_n, e]
    by_cases dx : si 384 10 ≤ x
    · rw [if_pos dx, if_pos dx]
    · rw [if_neg dx, if_neg dx]
      have dx1 := Int32.lt_iff_toInt_lt.mp (Int32.not_le.mp dx)
      have w := cc x.toNatClampNeg (by omega)
      have za := clampE a0
      have wb := w.2 a0.toNatClampNeg (by omega)
      have bg := bitg (A := si 384) (g := x) (c := a0) h1 (by omega) c0 c1
      obtain ⟨x', ex, xi⟩ : ∃ x' : Int32, x + Int32.ofInt 1 = x' ∧ x'.toInt = x.toInt + 1 := ⟨_, rfl, t1_inc (x := x) (by omega) (by omega)⟩
      have i0 := ixg0 (g := x) h1 (by omega)
      rw [hasBit_v c0 (by omega), wb]
      have go : (if (if gb (si 384) x.toNatClampNeg a0.toNatClampNeg = true then (1 : Int32) else 0) = 0 then g_X1_whereNow_K44 x (g_X1_whereNow_L5 a0 a1 I J ri rj rq n) p else if p = a1 then (ri 33 x.toNatClampNeg, I, J, ri, rj, rq) else g_X1_whereNow_K44 x (g_X1_whereNow_L5 a0 a1 I J ri rj rq n) (p + Int32.ofInt 1)).1 = (g_X12_found_K75 U V si sj sq q x (g_X12_found_L19 a0 U V si sj sq n) ((2400 : Int32) + (4 : Int32) * x) (if (20 : Int32) ≤ a0 then si 384 ((2400 : Int32) + (4 : Int32) * x + 2).toNatClampNeg >>> ((a0 - 20) &&& 31) else si 384 ((2400 : Int32) + (4 : Int32) * x + 1).toNatClampNeg >>> (a0 &&& 31))).1 := by
        rw [g_X12_found_K75_e]
        simp only [↓ap1_n, g_X1_whereNow_K44, g_X12_found_K102]
        by_cases g : gb (si 384) x.toNatClampNeg a0.toNatClampNeg = true
        · rw [if_pos g, if_neg (by decide), if_neg (mt bg.mp (by rw [g]; decide))]
          by_cases pe : p = a1
          · have q0 : q = 0 := Int32.toInt_inj.mp (by rw [h7, pe]; show a1.toInt - a1.toInt = 0; omega)
            rw [if_pos pe, if_pos q0, i0]
            exact w.1
          · have q0 : q ≠ 0 := fun y => pe (Int32.toInt_inj.mp (by
              have y2 := congrArg Int32.toInt y
              have y3 : (0 : Int32).toInt = 0 := rfl
              omega))
            have q1 : q.toInt ≠ 0 := fun y => q0 (Int32.toInt_inj.mp y)
            have l := a1.toInt_lt
            obtain ⟨p', ep, pi⟩ : ∃ p' : Int32, p + Int32.ofInt 1 = p' ∧ p'.toInt = p.toInt + 1 := ⟨_, rfl, t1_inc (x := p) (by omega) (by omega)⟩
            obtain ⟨q', eq, qi⟩ : ∃ q' : Int32, q + Int32.ofInt (-1) = q' ∧ q'.toInt = q.toInt - 1 := ⟨_, rfl, i_add rfl (show (Int32.ofInt (-1)).toInt = -1 by decide) (by omega) (by omega)⟩
            rw [if_neg pe, if_neg q0, ex, ep, eq]
            exact ih x' p' q' (by omega) (by omega) (by omega) (by omega) (by omega) (by omega) (by omega)
        · have g2 : gb (si 384) x.toNatClampNeg a0.toNatClampNeg = false := by simpa using g
          rw [if_neg g, if_pos rfl, if_pos (bg.mpr g2), ex]
          exact ih x' _ _ (by omega) (by omega) (by omega) h4 (by omega) h6 h7
      by_cases k : (20 : Int32) ≤ a0
      · simp only [if_pos k] at go ⊢
        exact go
      · simp only [if_neg k] at go ⊢
        exact go
theorem found_v {a0 a1 : Int32} (h : GRV I ri rj (si 384)) (e2 : I 65 = si 384 2) (c0 : 0 ≤ (I 65).toInt) (c4 : (I 65).toInt ≤ 40) : (g_X11_found a0 a1 I J ri rj rq).1 = (g_X12_found a0 a1 U V si sj sq).1 := by
  rw [g_X11_found_e, g_X12_found_e, isCell_c, isCell_m]
  simp only [bnI_mk]
  rw [← e2]
  by_cases q1 : bt a0 0 (I 65 - 1) = 0
  · rw [if_pos q1, if_pos q1]
    rfl
  · have b1 := bt_cell c0 c4 q1
    have k0 : (0 : Int32).toInt = 0 := by decide
    rw [if_neg q1, if_neg q1]
    by_cases q2 : a1 < 0
    · rw [if_pos q2, if_neg (fun y => by
        have y1 := Int32.le_iff_toInt_le.mp y
        have y2 := Int32.lt_iff_toInt_lt.mp q2
        omega)]
      rfl
    · have y1 := Int32.le_iff_toInt_le.mp (Int32.not_lt.mp q2)
      rw [if_neg q2, if_pos (Int32.not_lt.mp q2), g_X1_whereNow_e]
      show (g_X1_whereNow_L5 a0 a1 I J ri rj rq ((30 - ((0 : Int32)).toInt).toNat + 1) (0 : Int32) (0 : Int32)).1 = _
      exact found_l h b1.1 (by omega) _ _ _ _ (by omega) (Nat.lt_succ_self _) (by omega) (by omega) (by omega) (by omega) (by omega)
/-! a copy of all: the graves -/
section CPG
variable {nI : Nat → Int32} {nJ : Nat → Int64} {nR : Nat → Nat → Int32} {nL : Nat → Nat → Int64} {nQ : Nat → Nat → Option Nat}
def QG (nI : Nat → Int32) (nR : Nat → Nat → Int32) (nL : Nat → Nat → Int64) (b : vM) : Prop := b.1 32 = nI 32 ∧ (∀ j, j < 30 → b.2.2.1 33 j = nR 33 j) ∧ ∀ j, j < 30 → b.2.2.2.1 34 j = nL 34 j
theorem cpy_L {f g : Nat → Int64} {n j : Nat} (h : j < n) : va_cpy f g 0 0 n j = f j := by
  unfold va_cpy
  rw [if_pos ⟨Nat.zero_le _, by omega⟩, show 0 + (j - 0) = j from by omega]
theorem bV_all {P : vM → Prop} {p : vM} {k : (Nat → Int32) → (Nat → Int64) → (Nat → Nat → Int32) → (Nat → Nat → Int64) → (Nat → Nat → Option Nat) → vM} (h : ∀ a b c d e, P (k a b c d e)) : P (bnV p k) := h _ _ _ _ _
theorem cp1 : QG nI nR nL (g_X1_copyFrom nI nR nL I J ri rj rq) := by
  have z0 : (0 : Int32).toNatClampNeg = 0 := by decide
  have z30 : (30 : Int32).toNatClampNeg = 30 := by decide
  rw [g_X1_copyFrom_e]
  simp only [↓ap1_n, z0, z30]
  refine ⟨show va_up I 32 (nI 32) 32 = nI 32 from va_up_self _ _ _, fun j hj => ?_, fun j hj => ?_⟩
  · show va_up ri 33 (va_cpy (nR 33) (ri 33) 0 0 30) 33 j = nR 33 j
    rw [va_up_self]
    exact cpy_v hj
  · show va_up rj 34 (va_cpy (nL 34) (rj 34) 0 0 30) 34 j = nL 34 j
    rw [va_up_self]
    exact cpy_L hj
theorem copyFrom_g : QG nI nR nL (g_X10_copyFrom nI nJ nR nL nQ I J ri rj rq) := by
  rw [g_X10_copyFrom_e]
  simp only [↓ap1_n]
  refine bV_all (fun _ _ _ _ _ => ?_)
  refine bV_all (fun _ _ _ _ _ => ?_)
  refine bV_all (fun _ _ _ _ _ => ?_)
  refine bV_all (fun _ _ _ _ _ => ?_)
  exact cp1
theorem image_g {r : Int32} {I1 : Nat → Int32} {J1 : Nat → Int64} {r1 : Nat → Nat → Int32} {l1 : Nat → Nat → Int64} {q1 : Nat → Nat → Option Nat} (e : g_X11_image nI nJ nR nL nQ I J ri rj rq = (r, I1, J1, r1, l1, q1)) : QG nI nR nL (I1, J1, r1, l1, q1) := by
  have h : QG nI nR nL (g_X10_copyFrom nI nJ nR nL nQ I J ri rj rq) := copyFrom_g
  rw [g_X11_image_e] at e
  generalize g_X10_copyFrom nI nJ nR nL nQ I J ri rj rq = p at h e
  obtain ⟨a, b, c, d, f⟩ := p
  have e2 : ((nI 320, a, b, c, d, f) : Int32 × vM) = (r, I1, J1, r1, l1, q1) := e
  exact (Prod.mk.inj e2).2 ▸ h
theorem back_g {r : Int32} {I1 : Nat → Int32} {J1 : Nat → Int64} {r1 : Nat → Nat → Int32} {l1 : Nat → Nat → Int64} {q1 : Nat → Nat → Option Nat} (e : g_X11_back nI nJ nR nL nQ I J ri rj rq = (r, I1, J1, r1, l1, q1)) : QG nI nR nL (I1, J1, r1, l1, q1) := by
  have h : QG nI nR nL (g_X10_copyFrom nI nJ nR nL nQ I J ri rj rq) := copyFrom_g
  rw [g_X11_back_e] at e
  generalize g_X10_copyFrom nI nJ nR nL nQ I J ri rj rq = p at h e
  obtain ⟨a, b, c, d, f⟩ := p
  have e2 : ((a 320, a, b, c, d, f) : Int32 × vM) = (r, I1, J1, r1, l1, q1) := e
  exact (Prod.mk.inj e2).2 ▸ h
end CPG
end PU17
/-! ===== pure: LEVEL OF, the same on both sides ===== -/
section PU18
variable {I : Nat → Int32} {J : Nat → Int64} {ri : Nat → Nat → Int32} {rj : Nat → Nat → Int64} {rq : Nat → Nat → Option Nat}
variable {U : Nat → Int32} {V : Nat → Int64} {si : Nat → Nat → Int32} {sj : Nat → Nat → Int64} {sq : Nat → Nat → Option Nat}
theorem levelOf_v {a0 a1 a2 : Int32} (h : RSL I ri (si 384)) : (g_X11_levelOf a0 a1 a2 I J ri rj rq).1 = (g_X12_levelOf a0 a1 a2 U V si sj sq).1 := by
  obtain ⟨⟨_, _, ⟨l0, l2⟩⟩, _, ⟨_, _, _, e3⟩, hlv, _⟩ := h
  rw [g_X11_levelOf_e, g_X12_levelOf_e]
  simp only [↓ap1_n, between_b, isIn_b, isRise_c, isRise_m, isMonth_c, isMonth_m]
  by_cases q1 : bt a0 0 2 = 0
  · rw [if_pos q1, if_pos q1]
    rfl
  · rw [if_neg q1, if_neg q1]
    by_cases q2 : bt a1 0 599 = 0
    · rw [if_pos q2, if_pos q2]
      rfl
    · rw [if_neg q2, if_neg q2]
      by_cases q3 : bt a2 0 600 = 0
      · rw [if_pos q3, if_pos q3]
        rfl
      · rw [if_neg q3, if_neg q3]
        have b2 := bt_n q2
        have k0 : (0 : Int32).toInt = 0 := by decide
        have k599 : (599 : Int32).toInt = 599 := by decide
        rw [known_v (by omega) (by omega) l0 l2, levelAt_v (by rw [← e3]; exact l0) (by rw [← e3]; exact l2), bnI_mk, bnI_mk, ← e3]
        exact fin_eq hlv
end PU18
/-! ===== pure: who is dead, on both sides ===== -/
section PU19
variable {I : Nat → Int32} {J : Nat → Int64} {ri : Nat → Nat → Int32} {rj : Nat → Nat → Int64} {rq : Nat → Nat → Option Nat}
variable {U : Nat → Int32} {V : Nat → Int64} {si : Nat → Nat → Int32} {sj : Nat → Nat → Int64} {sq : Nat → Nat → Option Nat}
/-- the dead are the dead; a group's lot is none or one of the LOTS -/
def DC (r0 r : Nat → Nat → Int32) : Prop := (∀ q, r 5 q = 300 ↔ r0 5 q = 300) ∧ ∀ k, -2 ≤ (r 15 k).toInt ∧ (r 15 k).toInt ≤ 4
def DCv (r0 : Nat → Nat → Int32) (b : vM) : Prop := DC r0 b.2.2.1
theorem dc_o {r0 r r1 : Nat → Nat → Int32} (h : DC r0 r) (e5 : r1 5 = r 5) (e15 : r1 15 = r 15) : DC r0 r1 := ⟨fun q => by rw [e5]; exact h.1 q, fun k => by rw [e15]; exact h.2 k⟩
theorem bV_to {β : Type} {P : β → Prop} {Q : vM → Prop} {p : vM} {k : (Nat → Int32) → (Nat → Int64) → (Nat → Nat → Int32) → (Nat → Nat → Int64) → (Nat → Nat → Option Nat) → β} (h : Q p) (H : ∀ I J ri rj rq, Q (I, J, ri, rj, rq) → P (k I J ri rj rq)) : P (bnV p k) := H _ _ _ _ _ h
theorem takeLot_d {a : Int32} (h10 : (I 10).toInt ≤ 5) : ∃ (v : Int32) (r1 : Nat → Nat → Int32), g_X0_takeLot a I J ri rj rq = (v, I, J, r1, rj, rq) ∧ (-1 ≤ v.toInt ∧ v.toInt ≤ 4) ∧ r1 5 = ri 5 ∧ r1 15 = ri 15 := by
  have go : ∀ (n : Nat) (x : Int32), 0 ≤ x.toInt → ∃ (v : Int32) (r1 : Nat → Nat → Int32), g_X0_takeLot_L2 a I J ri rj rq n x = (v, I, J, r1, rj, rq) ∧ (-1 ≤ v.toInt ∧ v.toInt ≤ 4) ∧ r1 5 = ri 5 ∧ r1 15 = ri 15 := by
    intro n
    induction n with
    | zero => intro x _; exact ⟨0, ri, rfl, by decide, rfl, rfl⟩
    | succ n ih =>
      intro x x0
      rw [g_X0_takeLot_L2_e]
      simp only [↓ap1_n]
      by_cases c : I 10 ≤ x
      · rw [if_pos c]; exact ⟨-1, ri, rfl, by decide, rfl, rfl⟩
      · have c1 := Int32.lt_iff_toInt_lt.mp (Int32.not_le.mp c)
        have e := t1_inc (x := x) (by omega) (by omega)
        rw [if_neg c]
        by_cases d : ri 13 x.toNatClampNeg < a
        · rw [if_pos d]; exact ih _ (by omega)
        · rw [if_neg d]; exact ⟨x, _, rfl, ⟨by omega, by omega⟩, va_up_ne _ _ (show (5 : Nat) ≠ 13 by decide), va_up_ne _ _ (show (15 : Nat) ≠ 13 by decide)⟩
  rw [g_X0_takeLot_e]
  exact go _ _ (by decide)
theorem isOnRing_d {a : Int32} (h : (g_X0_isOnRing a I J ri rj rq).1 ≠ 0) : ri 5 a.toNatClampNeg ≠ 300 := fun q => by
  refine h ?_
  rw [g_X0_isOnRing_e]
  simp only [↓ap1_n, q, if_pos (show (5 : Int32) ≤ 300 by decide)]
theorem countGroups_d {a : Int64} {r0 : Nat → Nat → Int32} (h : DC r0 ri) : DCv r0 (g_X0_countGroups a I J ri rj rq) := by
  have go : ∀ (n : Nat) (x : Int32) (r : Nat → Nat → Int32), DC r0 r → DCv r0 (g_X0_countGroups_L19 a I J rj rq n x r) := by
    intro n
    induction n with
    | zero => intro x r h; exact h
    | succ n ih =>
      intro x r h
      rw [g_X0_countGroups_L19_e]
      simp only [↓ap1_n, g_X0_countGroups_K57]
      split
      · exact h
      · split
        · exact ih _ _ h
        · rw [bn_p g_X0_isOnRing_f]
          split
          · exact ih _ _ h
          · rw [bn_p g_X0_groupOf_f]
            exact ih _ _ (dc_o h (va_up_ne _ _ (show (5 : Nat) ≠ 14 by decide)) (va_up_ne _ _ (show (15 : Nat) ≠ 14 by decide)))
  have f15 : DC r0 (va_up (va_up ri 14 (fil (0 : Int32) 50 (ri 14))) 15 (fil (-2 : Int32) 50 (va_up ri 14 (fil (0 : Int32) 50 (ri 14)) 15))) := ⟨fun q => by
    rw [va_up_ne _ _ (show (5 : Nat) ≠ 15 by decide), va_up_ne _ _ (show (5 : Nat) ≠ 14 by decide)]; exact h.1 q, fun k => by
    rw [va_up_self, va_up_ne _ _ (show (15 : Nat) ≠ 14 by decide)]
    by_cases c : k < 50
    · have e : fil (-2 : Int32) 50 (ri 15) k = -2 := if_pos c
      rw [e]; decide
    · have e : fil (-2 : Int32) 50 (ri 15) k = ri 15 k := if_neg c
      rw [e]; exact h.2 k⟩
  rw [g_X0_countGroups_e]
  simp only [↓ap1_n]
  exact go _ _ _ f15
theorem bd_165 {a4 x2 x3 x4 x1 : Int32} {k : Int32 → Int32 → (Nat → Nat → Int32) → vM} {r0 r : Nat → Nat → Int32} (hk : ∀ y z s, DC r0 s → DCv r0 (k y z s)) (h5 : r 5 x3.toNatClampNeg ≠ 300) (h : DC r0 r) : DCv r0 (g_X0_board_331_K165 a4 x2 k x3 x4 x1 r) := by
  have hn : (100 : Int32) + r 15 x4.toNatClampNeg ≠ 300 := hundred (by have := (h.2 x4.toNatClampNeg).1; omega) (by have := (h.2 x4.toNatClampNeg).2; omega)
  rw [g_X0_board_331_K165_e]
  simp only [↓ap1_n, g_X0_board_331_K202]
  split
  · exact hk _ _ _ h
  · refine hk _ _ _ ⟨fun q => ?_, fun j => ?_⟩
    · rw [va_up_ne _ _ (show (5 : Nat) ≠ 8 by decide), va_up_self]
      by_cases e : q = x3.toNatClampNeg
      · rw [e, upd_s]
        exact ⟨fun y => absurd y hn, fun y => absurd ((h.1 _).mpr y) h5⟩
      · rw [upd_n _ _ e]; exact h.1 q
    · rw [va_up_ne _ _ (show (15 : Nat) ≠ 8 by decide), va_up_ne _ _ (show (15 : Nat) ≠ 5 by decide)]; exact h.2 j
theorem bd_137 {a4 x2 x3 x4 x1 v : Int32} {k : Int32 → Int32 → (Nat → Nat → Int32) → vM} {r0 r : Nat → Nat → Int32} (hk : ∀ y z s, DC r0 s → DCv r0 (k y z s)) (hv : -2 ≤ v.toInt ∧ v.toInt ≤ 4) (h5 : r 5 x3.toNatClampNeg ≠ 300) (h : DC r0 r) : DCv r0 (g_X0_board_331_K137 a4 x1 x2 k x3 x4 v r) := by
  have hs : DC r0 (va_up r 15 (upd (r 15) x4.toNatClampNeg v)) := ⟨fun q => by rw [va_up_ne _ _ (show (5 : Nat) ≠ 15 by decide)]; exact h.1 q, fun j => by
    rw [va_up_self]
    by_cases e : j = x4.toNatClampNeg
    · rw [e, upd_s]; exact hv
    · rw [upd_n _ _ e]; exact h.2 j⟩
  have hn : va_up r 15 (upd (r 15) x4.toNatClampNeg v) 5 x3.toNatClampNeg ≠ 300 := by rw [va_up_ne _ _ (show (5 : Nat) ≠ 15 by decide)]; exact h5
  rw [g_X0_board_331_K137_e]
  simp only [↓ap1_n, g_X0_board_331_K162]
  split
  · exact bd_165 hk hn hs
  · exact bd_165 hk hn hs
theorem bd_43 {a0 : Int64} {a2 a4 : Int32} {r0 : Nat → Nat → Int32} (h10 : (I 10).toInt ≤ 5) : ∀ (n : Nat) (x1 x2 : Int32) (r : Nat → Nat → Int32), DC r0 r → DCv r0 (g_X0_board_331_L43 a0 a2 a4 I J rj rq n x1 x2 r) := by
  intro n
  induction n with
  | zero => intro x1 x2 r h; exact h
  | succ n ih =>
    intro x1 x2 r h
    rw [g_X0_board_331_L43_e]
    simp only [↓ap1_n, g_X0_board_331_K202]
    split
    · exact h
    · split
      · exact h
      · split
        · exact ih _ _ _ h
        · rw [bn_p g_X0_isOnRing_f]
          by_cases c : (g_X0_isOnRing (r 331 x2.toNatClampNeg) I J r rj rq).1 = 0
          · rw [if_pos c]
            exact ih _ _ _ h
          · have h5 := isOnRing_d c
            rw [if_neg c, bn_p g_X0_groupOf_f]
            generalize (g_X0_groupOf (r 331 x2.toNatClampNeg) I J r rj rq).1 = gq
            split
            · split
              · exact bd_137 ih (by decide) h5 h
              · obtain ⟨v, r1, e1, hv, e5, e15⟩ := takeLot_d (a := r 14 gq.toNatClampNeg) (J := J) (ri := r) (rj := rj) (rq := rq) h10
                rw [e1, bnI_mk]
                exact bd_137 ih ⟨by omega, hv.2⟩ (by rw [e5]; exact h5) (dc_o h e5 e15)
            · exact bd_165 ih h5 h
theorem bd_8 {a0 : Int64} {a2 a3 a4 : Int32} {r0 : Nat → Nat → Int32} (h10 : (I 10).toInt ≤ 5) : ∀ (n : Nat) (x : Int32) (r : Nat → Nat → Int32), DC r0 r → DCv r0 (g_X0_board_331_L8 a0 a2 a3 a4 I J rj rq n x r) := by
  intro n
  induction n with
  | zero => intro x r h; exact h
  | succ n ih =>
    intro x r h
    rw [g_X0_board_331_L8_e]
    simp only [↓ap1_n]
    split
    · exact bd_43 h10 _ _ _ _ h
    · rw [bn_p g_X0_freeBeds_f]
      exact ih _ _ (dc_o h (va_up_ne _ _ (show (5 : Nat) ≠ 13 by decide)) (va_up_ne _ _ (show (15 : Nat) ≠ 13 by decide)))
theorem board_d {a0 : Int64} {a2 a3 a4 : Int32} {r0 : Nat → Nat → Int32} (h10 : (I 10).toInt ≤ 5) (h : DC r0 ri) : DCv r0 (g_X0_board_331 a0 a2 a3 a4 I J ri rj rq) := by
  rw [g_X0_board_331_e]
  exact bV_to (P := DCv r0) (Q := DCv r0) (countGroups_d h) (fun _ _ r1 _ _ h1 => bd_8 h10 _ _ _ h1)
theorem goBy_d {tI : Nat → Nat → Int32} {tR : Nat → Nat → Nat → Int32} {a0 : Int32} {r0 : Nat → Nat → Int32} (h10 : (I 10).toInt ≤ 5) (h : DC r0 ri) : DCv r0 (g_X10_goBy tI tR a0 I J ri rj rq) := by
  rw [g_X10_goBy_e]
  simp only [↓ap1_n]
  split
  · refine bV_of (P := DCv r0) g_X10_nature_f (fun I1 _ ra _ _ h1 => ?_)
    refine bV_of (P := DCv r0) g_X9_fillUp_f (fun _ _ rb _ _ h2 => ?_)
    refine bV_of (P := DCv r0) g_X2_countBeds_332_f (fun _ _ rc _ _ h3 => ?_)
    refine bI_of (P := DCv r0) g_X0_drink_f (fun _ _ _ rd _ _ h4 => ?_)
    refine bI_of (P := DCv r0) g_X0_sleep_332_f (fun _ _ _ re _ _ h5 => ?_)
    refine bV_of (P := DCv r0) g_X10_reckon_f (fun I2 _ rf _ _ h6 => ?_)
    have a1 : ra 5 = ri 5 := h1.2.2.1 5 (by decide)
    have b1 : ra 15 = ri 15 := h1.2.2.1 15 (by decide)
    have a2 : rb 5 = ra 5 := h2.2.2.1 5 (by decide)
    have b2 : rb 15 = ra 15 := h2.2.2.1 15 (by decide)
    have a3 : rc 5 = rb 5 := h3.2.2.1 5 (by decide)
    have b3 : rc 15 = rb 15 := h3.2.2.1 15 (by decide)
    have a4 : rd 5 = rc 5 := h4.2.2.1 5 (by decide)
    have b4 : rd 15 = rc 15 := h4.2.2.1 15 (by decide)
    have a5 : re 5 = rd 5 := h5.2.2.1 5 (by decide)
    have b5 : re 15 = rd 15 := h5.2.2.1 15 (by decide)
    have a6 : rf 5 = re 5 := h6.2.2.1 5 (by decide)
    have b6 : rf 15 = re 15 := h6.2.2.1 15 (by decide)
    have i1 : I1 10 = I 10 := h1.1 10 (by decide)
    have i2 : I2 10 = I1 10 := h6.1 10 (by decide)
    have hf : DC r0 rf := dc_o h (a6.trans (a5.trans (a4.trans (a3.trans (a2.trans a1))))) (b6.trans (b5.trans (b4.trans (b3.trans (b2.trans b1)))))
    split
    · exact hf
    · refine bV_of (P := DCv r0) g_X3_line_331_f (fun _ _ rg _ _ h7 => ?_)
      refine bI_of (P := DCv r0) g_X0_onRings_f (fun _ _ _ rh _ _ h8 => ?_)
      refine bI_of (P := DCv r0) g_X3_whoIsSo_f (fun _ _ _ rk _ _ h9 => ?_)
      have a7 : rg 5 = rf 5 := h7.2.2.1 5 (by decide)
      have b7 : rg 15 = rf 15 := h7.2.2.1 15 (by decide)
      have a9 : rk 5 = rg 5 := h9.2.2.1 5 (by decide)
      have b9 : rk 15 = rg 15 := h9.2.2.1 15 (by decide)
      exact bV_to (P := DCv r0) (Q := DCv r0) (board_d (by rw [i2, i1]; exact h10) (dc_o hf (a9.trans a7) (b9.trans b7))) (fun _ _ _ _ _ hq => hq)
  · exact h
theorem months_d {tI : Nat → Nat → Int32} {tR : Nat → Nat → Nat → Int32} {a0 a1 : Int32} {r0 : Nat → Nat → Int32} (h10 : (I 10).toInt ≤ 5) (h : DC r0 ri) : DCv r0 (g_X11_months tI tR a0 a1 I J ri rj rq).2 := by
  have go : ∀ (n : Nat) (x : Int32) (I : Nat → Int32) (J : Nat → Int64) (ri : Nat → Nat → Int32) (rj : Nat → Nat → Int64), (I 10).toInt ≤ 5 → DC r0 ri → DCv r0 (g_X11_months_L15 a0 a1 rq tI tR n x I J ri rj).2 := by
    intro n
    induction n with
    | zero => intro x I J ri rj _ h; exact h
    | succ n ih =>
      intro x I J ri rj h1 h
      have hq := goBy_d (tI := tI) (tR := tR) (a0 := a1) (J := J) (rj := rj) (rq := rq) h1 h
      have hi : (g_X10_goBy tI tR a1 I J ri rj rq).1 10 = I 10 := (g_X10_goBy_f : FRG id w_X10_goBy (I, J, ri, rj, rq) (g_X10_goBy tI tR a1 I J ri rj rq)).1 10 (by decide)
      rw [g_X11_months_L15_e]
      simp only [↓ap1_n]
      split
      · exact h
      · exact bV_to (P := fun b : Int32 × vM => DCv r0 b.2) (Q := fun b : vM => DCv r0 b ∧ (b.1 10).toInt ≤ 5) ⟨hq, by rw [hi]; exact h1⟩ (fun I1 J1 r1 l1 _ hb => ih _ I1 J1 r1 l1 hb.2 hb.1)
  rw [g_X11_months_e, bn_p g_X11_canGoBy_f]
  split
  · exact h
  · exact go _ _ _ _ _ _ h10 h
/-! both sides -/
def RDF (I : Nat → Int32) (r : Nat → Nat → Int32) (A : Nat → Int32) : Prop := I 0 = A 5 ∧ ∀ p, p < 40 → (r 5 p = 300 ↔ A (740 + 12 * p + 3) = 300)
def DV (b c : Int32 × vM) : Prop := RDF b.2.1 b.2.2.2.1 (c.2.2.2.1 384)
def lot15 (r : Nat → Nat → Int32) : Prop := ∀ k, -2 ≤ (r 15 k).toInt ∧ (r 15 k).toInt ≤ 4
theorem months_D {tI : Nat → Nat → Int32} {tR : Nat → Nat → Nat → Int32} {a0 a1 : Int32} (h : RSL I ri (si 384)) (hd : RDF I ri (si 384)) (h10 : (I 10).toInt ≤ 5) (hR : lot15 ri) : DV (g_X11_months tI tR a0 a1 I J ri rj rq) (g_X12_months a0 a1 U V si sj sq) := by
  obtain ⟨v, I1, J1, r1, l1, U1, s1, m1, e1, e2, _, _, ez, e5⟩ := months_v (tI := tI) (tR := tR) (a0 := a0) (a1 := a1) (J := J) (rj := rj) (rq := rq) (U := U) (V := V) (sj := sj) (sq := sq) h
  have hc : DCv ri (g_X11_months tI tR a0 a1 I J ri rj rq).2 := months_d h10 ⟨fun _ => Iff.rfl, hR⟩
  have hf : (g_X11_months tI tR a0 a1 I J ri rj rq).2.1 0 = I 0 := (g_X11_months_f : FRG Prod.snd w_X11_months (I, J, ri, rj, rq) (g_X11_months tI tR a0 a1 I J ri rj rq)).1 0 (by decide)
  rw [e1] at hc hf
  unfold DV
  rw [e1, e2]
  exact ⟨hf.trans (hd.1.trans e5.symm), fun p hp => (hc.1 p).trans ((hd.2 p hp).trans (ez p hp).symm)⟩
theorem isPerson_c {a : Int32} : g_X11_isPerson a I J ri rj rq = (bt a 0 (I 0 - 1), I, J, ri, rj, rq) := rfl
theorem isPerson_m {a : Int32} : g_X12_isPerson a I J ri rj rq = (bt a 0 (ri 384 5 - 1), I, J, ri, rj, rq) := rfl
theorem isLot_c {a : Int32} : g_X11_isLot a I J ri rj rq = (bt a 100 (100 + I 10 - 1), I, J, ri, rj, rq) := rfl
theorem isLot_m {a : Int32} : g_X12_isLot a I J ri rj rq = (bt a 100 (100 + ri 384 4 - 1), I, J, ri, rj, rq) := rfl
theorem lot_ne {a n : Int32} (h : 0 ≤ n.toInt ∧ n.toInt ≤ 5) (q : bt a 100 (100 + n - 1) ≠ 0) : a ≠ 300 := fun y => by
  have b := bt_n q
  have e : ((100 : Int32) + n).toInt = 100 + n.toInt := i_add (show (100 : Int32).toInt = 100 by decide) rfl (by omega) (by omega)
  have e2 : ((100 : Int32) + n - 1).toInt = 100 + n.toInt - 1 := i_sub e (show (1 : Int32).toInt = 1 by decide) (by omega) (by omega)
  rw [y, show (300 : Int32).toInt = 300 by decide] at b
  omega
theorem ring_ne {a n : Int32} (h : 0 ≤ n.toInt ∧ n.toInt ≤ 5) (q : bt a 0 (n - 1) ≠ 0) : a ≠ 300 := fun y => by
  have b := bt_cell h.1 (by omega) q
  rw [y, show (300 : Int32).toInt = 300 by decide] at b
  omega
/-- title: both sides answer the same -/
theorem title_v {a0 a1 : Int32} (h : RSL I ri (si 384)) (hd : RDF I ri (si 384)) : (g_X11_title a0 a1 I J ri rj rq).1 = (g_X12_title a0 a1 U V si sj sq).1 := by
  obtain ⟨_, ⟨_, ⟨p0, p4⟩, _⟩, ⟨_, _, e2, _⟩, _⟩ := h
  obtain ⟨e5, hp⟩ := hd
  rw [g_X11_title_e, g_X12_title_e, isCell_c, isCell_m]
  simp only [bnI_mk]
  rw [← e2]
  by_cases q1 : bt a0 0 (I 65 - 1) = 0
  · rw [if_pos q1, if_pos q1]; rfl
  · rw [if_neg q1, if_neg q1]
    by_cases q2 : a1 = -1
    · rw [if_pos q2, if_pos q2]; rfl
    · rw [if_neg q2, if_neg q2, isPerson_c, isPerson_m]
      simp only [bnI_mk]
      rw [← e5]
      by_cases q3 : bt a1 0 (I 0 - 1) = 0
      · rw [if_pos q3, if_pos q3]; rfl
      · have b := bt_cell (n := I 0) (by rw [e5]; exact p0) (by rw [e5]; exact p4) q3
        have z := clampE a1
        have a39 : a1.toInt ≤ 39 := by rw [e5] at b; omega
        have e := hp a1.toNatClampNeg (by omega)
        rw [if_neg q3, if_neg q3, bn_p g_X12_personAt_c3_f, personAt3 b.1 a39]
        simp only [↓ap1_n]
        by_cases q4 : ri 5 a1.toNatClampNeg = 300
        · rw [if_pos q4, if_pos (e.mp q4)]; rfl
        · rw [if_neg q4, if_neg (fun y => q4 (e.mpr y))]; rfl
/-- go, the class's side -/
theorem go_d {a0 a1 : Int32} (h64 : 0 ≤ (I 64).toInt ∧ (I 64).toInt ≤ 5) (h10 : 0 ≤ (I 10).toInt ∧ (I 10).toInt ≤ 5) (hR : lot15 ri) : DCv ri (g_X11_go a0 a1 I J ri rj rq).2 := by
  have same : DC ri ri := ⟨fun _ => Iff.rfl, hR⟩
  have put : ri 5 a0.toNatClampNeg ≠ 300 → a1 ≠ 300 → DC ri (va_up ri 5 (upd (ri 5) a0.toNatClampNeg a1)) := fun h0 h1 => ⟨fun q => by
    rw [va_up_self]
    by_cases e : q = a0.toNatClampNeg
    · rw [e, upd_s]; exact ⟨fun y => absurd y h1, fun y => absurd y h0⟩
    · have e2 := upd_n (ri 5) a1 e
      exact ⟨fun y => e2.symm.trans y, fun y => e2.trans y⟩, fun k => by rw [va_up_ne _ _ (show (15 : Nat) ≠ 5 by decide)]; exact hR k⟩
  rw [g_X11_go_e, isPerson_c, bnI_mk]
  by_cases q1 : bt a0 0 (I 0 - 1) = 0
  · rw [if_pos q1]; exact same
  · rw [if_neg q1]
    simp only [↓ap1_n, g_X11_go_K40, g_X11_go_K76, g_X11_go_K80, g_X11_go_K81, g_X11_go_K81_2, g_X11_go_K95, g_X11_go_K95_2]
    by_cases q2 : ri 5 a0.toNatClampNeg = 300
    · rw [if_pos q2]; exact same
    · rw [if_neg q2]
      by_cases q3 : ri 5 a0.toNatClampNeg = a1
      · rw [if_pos q3]; exact same
      · rw [if_neg q3, isRing_c, bnI_mk]
        by_cases q4 : bt a1 0 (I 64 - 1) = 0
        · rw [if_pos q4]
          by_cases q5 : a1 = 200
          · have n5 : a1 ≠ 300 := by rw [q5]; decide
            rw [if_pos q5]; exact put q2 n5
          · rw [if_neg q5, isLot_c, bnI_mk]
            by_cases q6 : bt a1 100 (100 + I 10 - 1) = 0
            · rw [if_pos q6]; exact same
            · have n6 : a1 ≠ 300 := lot_ne h10 q6
              rw [if_neg q6, bn_p g_X0_freeBeds_f]
              split
              · exact same
              · exact put q2 n6
        · have n4 : a1 ≠ 300 := ring_ne h64 q4
          rw [if_neg q4]
          exact put q2 n4
/-- go, the reference's side -/
theorem place_ne {a : Int32} (h1 : 0 ≤ (si 384 1).toInt ∧ (si 384 1).toInt ≤ 5) (h4 : 0 ≤ (si 384 4).toInt ∧ (si 384 4).toInt ≤ 5) (q : (g_X12_isPlace a U V si sj sq).1 ≠ 0) : a ≠ 300 := fun y => by
  refine q ?_
  have n1 : bt a 0 (si 384 1 - 1) = 0 := Classical.byContradiction fun k => ring_ne h1 k y
  have n2 : bt a 100 (100 + si 384 4 - 1) = 0 := Classical.byContradiction fun k => lot_ne h4 k y
  have n3 : ¬ a = 200 := by rw [y]; decide
  have e : g_X12_isPlace a U V si sj sq = (0, U, V, si, sj, sq) := by
    rw [g_X12_isPlace_e, isRing_m, bnI_mk, if_pos n1, isLot_m, bnI_mk, if_pos n2, if_neg n3]
  exact congrArg Prod.fst e
theorem go_z {a0 a1 : Int32} (hM : RMX (si 384)) (h4 : 0 ≤ (si 384 4).toInt) : zk (si 384) ((g_X12_go a0 a1 U V si sj sq).2.2.2.1 384) := by
  obtain ⟨h1, ⟨p0, p4⟩, q4⟩ := hM
  have same : zk (si 384) (si 384) := ⟨fun _ _ => Iff.rfl, rfl⟩
  rw [g_X12_go_e, isPerson_m, bnI_mk]
  simp only [g_X12_go_K38]
  by_cases q1 : bt a0 0 (si 384 5 - 1) = 0
  · rw [if_pos q1]; exact same
  · have b := bt_cell p0 p4 q1
    have z := clampE a0
    have b39 : a0.toInt ≤ 39 := by omega
    have put : si 384 (740 + 12 * a0.toNatClampNeg + 3) ≠ 300 → a1 ≠ 300 → zk (si 384) ((g_X12_go_K61 a0 a1 U V si sj sq).2.2.2.1 384) := fun h0 h1 => by
      rw [g_X12_go_K61_e]
      simp only [↓ap1_n]
      rw [ixp (c := a0) (k := 3) 3 (by decide) (by decide) b.1 b39, va_up_self]
      exact ⟨(zm_p3 (by omega) h0 h1).2, upd_n _ _ (by omega)⟩
    rw [if_neg q1, bn_p g_X12_isPlace_f]
    by_cases q2 : (g_X12_isPlace a1 U V si sj sq).1 = 0
    · rw [if_pos q2]; exact same
    · have hn : a1 ≠ 300 := place_ne h1 ⟨h4, q4⟩ q2
      rw [if_neg q2, bn_p g_X12_personAt_c3_f, personAt3 b.1 b39]
      by_cases q3 : si 384 (740 + 12 * a0.toNatClampNeg + 3) = a1
      · rw [if_pos q3]; exact same
      · rw [if_neg q3, bn_p g_X12_personAt_c3_f, personAt3 b.1 b39]
        by_cases q5 : si 384 (740 + 12 * a0.toNatClampNeg + 3) = 300
        · rw [if_pos q5]; exact same
        · rw [if_neg q5, isLot_m, bnI_mk]
          by_cases q6 : bt a1 100 (100 + si 384 4 - 1) = 0
          · rw [if_pos q6]; exact put q5 hn
          · rw [if_neg q6]
            simp only [↓ap1_n]
            rw [bn_p g_X12_freeIn_f]
            by_cases q7 : 0 < (g_X12_freeIn (a1 - 100) U V si sj sq).1
            · rw [if_pos q7]; exact put q5 hn
            · rw [if_neg q7]; exact same
theorem go_D {a0 a1 : Int32} (h : RSL I ri (si 384)) (hd : RDF I ri (si 384)) (h10 : 0 ≤ (I 10).toInt ∧ (I 10).toInt ≤ 5) (h4 : 0 ≤ (si 384 4).toInt) (hR : lot15 ri) : DV (g_X11_go a0 a1 I J ri rj rq) (g_X12_go a0 a1 U V si sj sq) := by
  have hM := h.2.1
  have e1 := h.2.2.1.2.1
  have hc : DCv ri (g_X11_go a0 a1 I J ri rj rq).2 := go_d (by rw [e1]; exact hM.1) h10 hR
  have hz := go_z (a0 := a0) (a1 := a1) (U := U) (V := V) (sj := sj) (sq := sq) hM h4
  have hf : (g_X11_go a0 a1 I J ri rj rq).2.1 0 = I 0 := (g_X11_go_f : FRG Prod.snd w_X11_go (I, J, ri, rj, rq) (g_X11_go a0 a1 I J ri rj rq)).1 0 (by decide)
  exact ⟨hf.trans (hd.1.trans hz.2.symm), fun p hp => (hc.1 p).trans ((hd.2 p hp).trans (hz.1 p hp).symm)⟩
/-- death, the class's side -/
theorem death_c {tI : Nat → Nat → Int32} {tR : Nat → Nat → Nat → Int32} {a0 : Int32} (hp : bt a0 0 (I 0 - 1) ≠ 0) (hd : ri 5 a0.toNatClampNeg ≠ 300) : (g_X11_death tI tR a0 I J ri rj rq).2.1 0 = I 0 ∧ (g_X11_death tI tR a0 I J ri rj rq).2.2.2.1 5 = upd (ri 5) a0.toNatClampNeg 300 := by
  rw [g_X11_death_e, isPerson_c, bnI_mk, if_neg hp]
  simp only [↓ap1_n]
  rw [if_neg hd]
  refine bI_of (P := fun b : Int32 × vM => b.2.1 0 = I 0 ∧ b.2.2.2.1 5 = upd (ri 5) a0.toNatClampNeg 300) g_X10_heirOf_f (fun _ _ _ r1 _ _ h1 => ?_)
  refine bI_of (P := fun b : Int32 × vM => b.2.1 0 = I 0 ∧ b.2.2.2.1 5 = upd (ri 5) a0.toNatClampNeg 300) g_X10_passTitles_f (fun _ _ _ r2 _ _ h2 => ?_)
  have e1 : r1 5 = va_up ri 5 (upd (ri 5) a0.toNatClampNeg 300) 5 := h1.2.2.1 5 (by decide)
  have e2 : r2 5 = r1 5 := h2.2.2.1 5 (by decide)
  exact ⟨rfl, e2.trans (e1.trans (va_up_self _ _ _))⟩
/-- death, the reference's side -/
theorem death_L {a0 x3 : Int32} {I1 : Nat → Int32} {B : Nat → Int32} (c4 : (si 384 2).toInt ≤ 40) : ∀ (n : Nat) (x1 x2 : Int32) (r : Nat → Nat → Int32), 0 ≤ x2.toInt → (∀ i, (∀ c, c < 40 → i ≠ 100 + 16 * c + 14) → r 384 i = B i) → ∀ i, (∀ c, c < 40 → i ≠ 100 + 16 * c + 14) → (g_X12_death_L140 a0 V si sj sq I1 x3 n x1 x2 r).2.2.2.1 384 i = B i := by
  intro n
  induction n with
  | zero => intro x1 x2 r _ h; exact h
  | succ n ih =>
    intro x1 x2 r x0 h
    have zx := clampE x2
    rw [g_X12_death_L140_e]
    simp only [↓ap1_n, g_X12_death_K186]
    by_cases c : si 384 2 ≤ x2
    · rw [if_pos c]; exact h
    · have c1 := Int32.lt_iff_toInt_lt.mp (Int32.not_le.mp c)
      have e := t1_inc (x := x2) (by omega) (by omega)
      rw [if_neg c, bn_p g_X12_cellAt_c14_f]
      split
      · rw [ixk (c := x2) (k := 14) 14 (by decide) (by decide) x0 (by omega)]
        refine ih _ _ _ (by omega) (fun i hi => ?_)
        rw [va_up_self, upd_n _ _ (hi _ (by omega))]
        exact h i hi
      · exact ih _ _ _ (by omega) h
theorem death_L2 {a0 x3 y1 : Int32} {I1 : Nat → Int32} {r : Nat → Nat → Int32} (c4 : (si 384 2).toInt ≤ 40) : ∀ (n : Nat) (x1 x2 : Int32), ∀ i, (∀ c, c < 40 → i ≠ 100 + 16 * c + 14) → (g_X12_death_L58 a0 V si sj sq r y1 I1 x3 n x1 x2).2.2.2.1 384 i = r 384 i := by
  intro n
  induction n with
  | zero => intro _ _ _ _; rfl
  | succ n ih =>
    intro x1 x2 i hi
    rw [g_X12_death_L58_e]
    simp only [↓ap1_n, g_X12_death_K128, g_X12_death_K125]
    split
    · exact death_L c4 _ _ _ _ (by decide) (fun _ _ => rfl) i hi
    · rw [bn_p g_X12_personAt_c0_f, bn_p g_X12_personAt_c0_f]
      split
      · rw [bn_p g_X12_personAt_c3_f]
        split
        · exact ih _ _ i hi
        · split
          · exact ih _ _ i hi
          · split
            · exact ih _ _ i hi
            · rw [bn_p g_X12_isAhead_f]
              split
              · exact ih _ _ i hi
              · exact ih _ _ i hi
      · exact ih _ _ i hi
theorem death_m {a0 : Int32} (c4 : (si 384 2).toInt ≤ 40) (p0 : 0 ≤ (si 384 5).toInt) (p4 : (si 384 5).toInt ≤ 40) (hp : bt a0 0 (si 384 5 - 1) ≠ 0) (hd : si 384 (740 + 12 * a0.toNatClampNeg + 3) ≠ 300) : ∀ i, (∀ c, c < 40 → i ≠ 100 + 16 * c + 14) → (g_X12_death a0 U V si sj sq).2.2.2.1 384 i = upd (si 384) (740 + 12 * a0.toNatClampNeg + 3) 300 i := by
  have b := bt_cell p0 p4 hp
  have b39 : a0.toInt ≤ 39 := by omega
  intro i hi
  rw [g_X12_death_e, isPerson_m, bnI_mk, if_neg hp, bn_p g_X12_personAt_c3_f, personAt3 b.1 b39, if_neg hd]
  simp only [↓ap1_n]
  rw [ixp (c := a0) (k := 3) 3 (by decide) (by decide) b.1 b39]
  refine bI_of (P := fun q : Int32 × vM => q.2.2.2.1 384 i = upd (si 384) (740 + 12 * a0.toNatClampNeg + 3) 300 i) g_X12_keysFor_f (fun _ _ _ _ _ _ _ => ?_)
  exact (death_L2 c4 _ _ _ i hi).trans (congrFun (va_up_self _ _ _) i)
theorem death_D {tI : Nat → Nat → Int32} {tR : Nat → Nat → Nat → Int32} {a0 : Int32} (h : RSL I ri (si 384)) (hd : RDF I ri (si 384)) : DV (g_X11_death tI tR a0 I J ri rj rq) (g_X12_death a0 U V si sj sq) := by
  obtain ⟨⟨_, ⟨_, c4⟩, _⟩, ⟨_, ⟨p0, p4⟩, _⟩, ⟨_, _, e2, _⟩, _⟩ := h
  rw [e2] at c4
  have e5 := hd.1
  by_cases q1 : bt a0 0 (I 0 - 1) = 0
  · have c1 : g_X11_death tI tR a0 I J ri rj rq = (-1, I, J, ri, rj, rq) := by
      rw [g_X11_death_e, isPerson_c, bnI_mk, if_pos q1]; rfl
    have c2 : g_X12_death a0 U V si sj sq = (-1, U, V, si, sj, sq) := by
      rw [g_X12_death_e, isPerson_m, bnI_mk, if_pos (by rw [← e5]; exact q1)]; rfl
    unfold DV
    rw [c1, c2]
    exact hd
  · have b := bt_cell (n := I 0) (by rw [e5]; exact p0) (by rw [e5]; exact p4) q1
    have z := clampE a0
    have a39 : a0.toInt ≤ 39 := by rw [e5] at b; omega
    have e := hd.2 a0.toNatClampNeg (by omega)
    have q3 : bt a0 0 (si 384 5 - 1) ≠ 0 := by rw [← e5]; exact q1
    by_cases q2 : ri 5 a0.toNatClampNeg = 300
    · have c1 : g_X11_death tI tR a0 I J ri rj rq = (-1, I, J, ri, rj, rq) := by
        rw [g_X11_death_e, isPerson_c, bnI_mk, if_neg q1]
        simp only [↓ap1_n]
        rw [if_pos q2]; rfl
      have c2 : g_X12_death a0 U V si sj sq = (-1, U, V, si, sj, sq) := by
        rw [g_X12_death_e, isPerson_m, bnI_mk, if_neg q3, bn_p g_X12_personAt_c3_f, personAt3 b.1 a39, if_pos (e.mp q2)]; rfl
      unfold DV
      rw [c1, c2]
      exact hd
    · obtain ⟨f0, f5⟩ := death_c (tI := tI) (tR := tR) (J := J) (rj := rj) (rq := rq) q1 q2
      have hm := death_m (a0 := a0) (U := U) (V := V) (sj := sj) (sq := sq) c4 p0 p4 q3 (fun y => q2 (e.mpr y))
      refine ⟨f0.trans (e5.trans ?_), fun p hp => ?_⟩
      · rw [hm 5 (fun c _ => by omega), upd_n _ _ (by omega)]
      · rw [f5, hm (740 + 12 * p + 3) (fun c hc => by omega)]
        by_cases s : p = a0.toNatClampNeg
        · rw [s, upd_s, upd_s]
        · rw [upd_n _ _ s, upd_n _ _ (show 740 + 12 * p + 3 ≠ 740 + 12 * a0.toNatClampNeg + 3 by omega)]
          exact hd.2 p hp
/-- a PERSON more -/
theorem addPerson_v {a0 a1 a2 a3 a4 : Int32} (d : I 0 < 40) : ∃ R : Nat → Nat → Int32, g_X0_addPerson a0 a1 a2 a3 a4 I J ri rj rq = (I 0, va_up I 0 (I 0 + 1), J, R, rj, rq) ∧ R 5 = upd (ri 5) (I 0).toNatClampNeg a3 := by
  rw [g_X0_addPerson_e]
  simp only [↓ap1_n, if_pos d]
  refine ⟨_, rfl, ?_⟩
  rw [va_up_ne _ _ (show (5 : Nat) ≠ 9 by decide), va_up_ne _ _ (show (5 : Nat) ≠ 8 by decide), va_up_ne _ _ (show (5 : Nat) ≠ 7 by decide), va_up_ne _ _ (show (5 : Nat) ≠ 6 by decide), va_up_ne _ _ (show (5 : Nat) ≠ 4 by decide), va_up_self, va_up_ne _ _ (show (5 : Nat) ≠ 3 by decide), va_up_ne _ _ (show (5 : Nat) ≠ 2 by decide), va_up_ne _ _ (show (5 : Nat) ≠ 1 by decide)]
theorem person_D {a0 a1 a2 a3 a4 : Int32} (h : RSL I ri (si 384)) (hd : RDF I ri (si 384)) : DV (g_X11_person a0 a1 a2 a3 a4 I J ri rj rq) (g_X12_person a0 a1 a2 a3 a4 U V si sj sq) := by
  obtain ⟨_, ⟨_, ⟨p0, p4⟩, _⟩, ⟨_, e1, _, _⟩, _⟩ := h
  have e5 := hd.1
  have k5 : (5 : Int32).toNatClampNeg = 5 := by decide
  have k40 : (40 : Int32).toInt = 40 := by decide
  unfold DV
  rw [g_X11_person_e, g_X12_person_e]
  simp only [↓ap1_n, between_b, isIn_b, isRing_c, isRing_m, bnI_mk, ← e1, k5, g_X11_person_K54, g_X11_person_K55_2, g_X11_person_K77_2, g_X11_person_K77, g_X12_person_K61]
  by_cases q1 : bt a0 0 9 = 0
  · simp only [if_pos q1]; exact hd
  · by_cases q2 : bt a1 0 99 = 0
    · simp only [if_neg q1, if_pos q2]; exact hd
    · by_cases q3 : bt a2 0 7 = 0
      · simp only [if_neg q1, if_neg q2, if_pos q3]; exact hd
      · by_cases q4 : bt a3 0 (I 64 - 1) = 0
        · simp only [if_neg q1, if_neg q2, if_neg q3, if_pos q4]; exact hd
        · by_cases q5 : bt a4 0 100 = 0
          · simp only [if_neg q1, if_neg q2, if_neg q3, if_neg q4, if_pos q5]; exact hd
          · simp only [if_neg q1, if_neg q2, if_neg q3, if_neg q4, if_neg q5, g_X11_person_K55, g_X11_person_K77, ↓ap1_n]
            by_cases d : I 0 < 40
            · have d1 := Int32.lt_iff_toInt_lt.mp d
              have d2 : ¬ si 384 5 = 40 := fun y => by rw [e5, y] at d1; omega
              have n39 : (si 384 5).toInt ≤ 39 := by rw [e5, k40] at d1; omega
              have z := clampE (si 384 5)
              obtain ⟨R, eR, hR⟩ := addPerson_v (a0 := a0) (a1 := a1) (a2 := a2) (a3 := a3) (a4 := a4) (J := J) (ri := ri) (rj := rj) (rq := rq) d
              rw [if_pos d, if_neg d2, eR, bnI_mk]
              rw [ixp (c := si 384 5) (k := 0) 0 (by decide) (by decide) p0 n39, ixp (c := si 384 5) (k := 1) 1 (by decide) (by decide) p0 n39, ixp (c := si 384 5) (k := 2) 2 (by decide) (by decide) p0 n39, ixp (c := si 384 5) (k := 3) 3 (by decide) (by decide) p0 n39, ixp (c := si 384 5) (k := 4) 4 (by decide) (by decide) p0 n39, ixp (c := si 384 5) (k := 7) 7 (by decide) (by decide) p0 n39, ixp (c := si 384 5) (k := 8) 8 (by decide) (by decide) p0 n39]
              simp only [va_up_self, up_up]
              generalize hN : (si 384 5).toNatClampNeg = N at z
              refine ⟨?_, fun p hp => ?_⟩
              · rw [va_up_self, upd_s, e5]
              · rw [hR, e5, hN, upd_n _ _ (show 740 + 12 * p + 3 ≠ 5 by omega)]
                by_cases s : p = N
                · rw [s, upd_s, upd_n _ _ (show 740 + 12 * N + 3 ≠ 740 + 12 * N + 8 by omega), upd_n _ _ (show 740 + 12 * N + 3 ≠ 740 + 12 * N + 7 by omega), upd_n _ _ (show 740 + 12 * N + 3 ≠ 740 + 12 * N + 4 by omega), upd_s]
                · rw [upd_n _ _ s, upd_n _ _ (show 740 + 12 * p + 3 ≠ 740 + 12 * N + 8 by omega), upd_n _ _ (show 740 + 12 * p + 3 ≠ 740 + 12 * N + 7 by omega), upd_n _ _ (show 740 + 12 * p + 3 ≠ 740 + 12 * N + 4 by omega), upd_n _ _ (show 740 + 12 * p + 3 ≠ 740 + 12 * N + 3 by omega), upd_n _ _ (show 740 + 12 * p + 3 ≠ 740 + 12 * N + 2 by omega), upd_n _ _ (show 740 + 12 * p + 3 ≠ 740 + 12 * N + 1 by omega), upd_n _ _ (show 740 + 12 * p + 3 ≠ 740 + 12 * N + 0 by omega)]
                  exact hd.2 p hp
            · have d2 : si 384 5 = 40 := by
                have y := Int32.le_iff_toInt_le.mp (Int32.not_lt.mp d)
                rw [e5, k40] at y
                exact Int32.toInt_inj.mp (by rw [k40]; omega)
              rw [if_neg d, if_pos d2]
              exact hd
/-- what lies beyond the counts -/
theorem RDF_cg {I1 : Nat → Int32} {r1 : Nat → Nat → Int32} {A A1 : Nat → Int32} (h : RDF I ri A) (h0 : I1 0 = I 0) (h5 : ∀ p, p < 40 → r1 5 p = ri 5 p) (a5 : A1 5 = A 5) (aP : ∀ p, p < 40 → A1 (740 + 12 * p + 3) = A (740 + 12 * p + 3)) : RDF I1 r1 A1 := ⟨h0.trans (h.1.trans a5.symm), fun p hp => by rw [h5 p hp, aP p hp]; exact h.2 p hp⟩
end PU19
/-! ===== pure: TOKENS of the class ===== -/
section PR0
/-- from p on all are such, up to e -/
def spn (P : Int32 → Prop) (T : Nat → Int32) (n p e : Nat) : Prop := p ≤ e ∧ e ≤ n ∧ (∀ j, p ≤ j → j < e → P (T j)) ∧ (e < n → ¬ P (T e))
theorem spn_ex (P : Int32 → Prop) (T : Nat → Int32) (n : Nat) : ∀ (k p : Nat), p ≤ n → n - p = k → ∃ e, spn P T n p e
  | 0, p, h, hk => ⟨p, Nat.le_refl _, h, fun j h1 h2 => absurd h1 (by omega), fun h1 => absurd h1 (by omega)⟩
  | k + 1, p, h, hk => by
    by_cases c : P (T p)
    · obtain ⟨e, e1, e2, e3, e4⟩ := spn_ex P T n k (p + 1) (by omega) (by omega)
      refine ⟨e, by omega, e2, fun j h1 h2 => ?_, e4⟩
      by_cases q : j = p
      · rw [q]; exact c
      · exact e3 j (by omega) h2
    · exact ⟨p, Nat.le_refl _, h, fun j h1 h2 => absurd h1 (by omega), fun _ => c⟩
theorem spn_s {P : Int32 → Prop} {T : Nat → Int32} {n p e : Nat} (h : spn P T n p e) (hp : p < n) (hP : P (T p)) : p < e ∧ spn P T n (p + 1) e := by
  obtain ⟨e1, e2, e3, e4⟩ := h
  have hpe : p < e := by
    by_cases q : p = e
    · rw [← q] at e4; exact absurd hP (e4 hp)
    · omega
  exact ⟨hpe, hpe, e2, fun j h1 h2 => e3 j (by omega) h2, e4⟩
theorem spn_z {P : Int32 → Prop} {T : Nat → Int32} {n p e : Nat} (h : spn P T n p e) (hP : n ≤ p ∨ ¬ P (T p)) : e = p := by
  obtain ⟨e1, e2, e3, e4⟩ := h
  by_cases q : p = e
  · exact q.symm
  · rcases hP with y | y
    · omega
    · exact absurd (e3 p (Nat.le_refl _) (by omega)) y
def blk (x : Int32) : Prop := x = 32 ∨ x = 10
def dgt (x : Int32) : Prop := 48 ≤ x.toInt ∧ x.toInt ≤ 57
def ltr (x : Int32) : Prop := 65 ≤ x.toInt ∧ x.toInt ≤ 90 ∨ 97 ≤ x.toInt ∧ x.toInt ≤ 122
theorem isD_1 {x : Int32} (h : dgt x) : g_X6_isDigit_x x = 1 := by
  have k1 : (48 : Int32).toInt = 48 := by decide
  have k2 : (57 : Int32).toInt = 57 := by decide
  unfold dgt at h
  rw [g_X6_isDigit_x_e, if_neg (show ¬ x < 48 from fun q => by have q1 := Int32.lt_iff_toInt_lt.mp q; omega), if_neg (show ¬ 57 < x from fun q => by have q1 := Int32.lt_iff_toInt_lt.mp q; omega)]
theorem isD_0 {x : Int32} (h : ¬ dgt x) : g_X6_isDigit_x x = 0 := by
  have k1 : (48 : Int32).toInt = 48 := by decide
  have k2 : (57 : Int32).toInt = 57 := by decide
  unfold dgt at h
  rw [g_X6_isDigit_x_e]
  by_cases a : x < 48
  · rw [if_pos a]
  · have a1 := Int32.le_iff_toInt_le.mp (Int32.not_lt.mp a)
    rw [if_neg a, if_pos (show 57 < x from Int32.lt_iff_toInt_lt.mpr (by omega))]
theorem isL_1 {x : Int32} (h : ltr x) : g_X6_isLetter_x x = 1 := by
  have k1 : (65 : Int32).toInt = 65 := by decide
  have k2 : (90 : Int32).toInt = 90 := by decide
  have k3 : (97 : Int32).toInt = 97 := by decide
  have k4 : (122 : Int32).toInt = 122 := by decide
  unfold ltr at h
  rw [g_X6_isLetter_x_e]
  by_cases a : x < 97
  · have a1 := Int32.lt_iff_toInt_lt.mp a
    rw [if_pos a, if_neg (show ¬ x < 65 from fun q => by have q1 := Int32.lt_iff_toInt_lt.mp q; omega), if_neg (show ¬ 90 < x from fun q => by have q1 := Int32.lt_iff_toInt_lt.mp q; omega)]
  · have a1 := Int32.le_iff_toInt_le.mp (Int32.not_lt.mp a)
    rw [if_neg a, if_pos (show x ≤ 122 from Int32.le_iff_toInt_le.mpr (by omega))]
theorem isL_0 {x : Int32} (h : ¬ ltr x) : g_X6_isLetter_x x = 0 := by
  have k1 : (65 : Int32).toInt = 65 := by decide
  have k2 : (90 : Int32).toInt = 90 := by decide
  have k3 : (97 : Int32).toInt = 97 := by decide
  have k4 : (122 : Int32).toInt = 122 := by decide
  unfold ltr at h
  rw [g_X6_isLetter_x_e]
  by_cases a : x < 97
  · have a1 := Int32.lt_iff_toInt_lt.mp a
    rw [if_pos a]
    by_cases b : x < 65
    · rw [if_pos b]
    · have b1 := Int32.le_iff_toInt_le.mp (Int32.not_lt.mp b)
      rw [if_neg b, if_pos (show 90 < x from Int32.lt_iff_toInt_lt.mpr (by omega))]
  · have a1 := Int32.le_iff_toInt_le.mp (Int32.not_lt.mp a)
    rw [if_neg a, if_neg (show ¬ x ≤ 122 from fun q => by have q1 := Int32.le_iff_toInt_le.mp q; omega)]
variable {J : Nat → Int64} {ri : Nat → Nat → Int32} {rj : Nat → Nat → Int64} {rq : Nat → Nat → Option Nat}
/-- an int that is this number -/
theorem at_n {x : Int32} {p : Nat} (h : x.toInt = (p : Int)) : x.toNatClampNeg = p := by have z := clampE x; omega
theorem le_n {x y : Int32} {p q : Nat} (hx : x.toInt = (p : Int)) (hy : y.toInt = (q : Int)) : x ≤ y ↔ p ≤ q := by rw [Int32.le_iff_toInt_le, hx, hy]; omega
theorem lt_n {x y : Int32} {p q : Nat} (hx : x.toInt = (p : Int)) (hy : y.toInt = (q : Int)) : x < y ↔ p < q := by rw [Int32.lt_iff_toInt_lt, hx, hy]; omega
theorem eq_n {x y : Int32} {p q : Nat} (hx : x.toInt = (p : Int)) (hy : y.toInt = (q : Int)) : x = y ↔ p = q := by
  rw [← Int32.toInt_inj, hx, hy]; omega
theorem upN {x : Int32} {p : Nat} (h : x.toInt = (p : Int)) (hp : p ≤ 1000) : (x + 1).toInt = ((p + 1 : Nat) : Int) := by
  rw [t1_one (by omega) (by omega), h]; omega
theorem up_i {x : Int32} {p : Nat} (h : x.toInt = (p : Int)) (hp : p ≤ 1000) : (x + Int32.ofInt 1).toInt = ((p + 1 : Nat) : Int) := by
  rw [t1_inc (by omega) (by omega), h]; omega
/-- the NUMBER of the digits from p on -/
def nvC (T : Nat → Int32) : Nat → Nat → Int32 → Int32
  | 0, _, v => v
  | k + 1, p, v => nvC T k (p + 1) (if v * 10 + T p - 48 < 10000 then v * 10 + T p - 48 else 10000)
theorem takeN_L {n : Nat} (h3 : n ≤ 300) : ∀ (m : Nat) (I : Nat → Int32) (p e : Nat), (I 193).toInt = (n : Int) → (I 197).toInt = (p : Int) → p ≤ n → 300 - p < m → spn dgt (ri 192) n p e → ∃ I', g_X6_takeNumber_x_L11 J ri rj rq m I = (I', J, ri, rj, rq) ∧ (I' 197).toInt = (e : Int) ∧ I' 196 = nvC (ri 192) (e - p) p (I 196) ∧ ∀ f, f ≠ 196 → f ≠ 197 → I' f = I f := by
  intro m
  induction m with
  | zero => intro I p e _ _ _ h; exact absurd h (Nat.not_lt_zero _)
  | succ m ih =>
    intro I p e hn hp hpn hm hs
    rw [g_X6_takeNumber_x_L11_e]
    simp only [↓ap1_n]
    by_cases c : I 193 ≤ I 197
    · rw [if_pos c]
      have c1 := (le_n hn hp).mp c
      have e1 := spn_z hs (Or.inl c1)
      subst e1
      exact ⟨I, rfl, hp, by rw [Nat.sub_self]; rfl, fun _ _ _ => rfl⟩
    · have c1 : p < n := Nat.lt_of_not_le (fun q => c ((le_n hn hp).mpr q))
      rw [if_neg c, at_n hp]
      by_cases d : dgt (ri 192 p)
      · rw [isD_1 d, if_neg (show ¬ (1 : Int32) = 0 by decide)]
        obtain ⟨s1, s2⟩ := spn_s hs c1 d
        have w : va_up I 196 (if I 196 * 10 + ri 192 p - 48 < 10000 then I 196 * 10 + ri 192 p - 48 else 10000) 197 = I 197 := va_up_ne _ _ (by decide)
        rw [w]
        obtain ⟨I', i1, i2, i3, i4⟩ := ih (va_up (va_up I 196 (if I 196 * 10 + ri 192 p - 48 < 10000 then I 196 * 10 + ri 192 p - 48 else 10000)) 197 (I 197 + 1)) (p + 1) e (by rw [va_up_ne _ _ (show (193 : Nat) ≠ 197 by decide), va_up_ne _ _ (show (193 : Nat) ≠ 196 by decide)]; exact hn) (by rw [va_up_self]; exact upN hp (by omega)) (by omega) (by omega) s2
        refine ⟨I', i1, i2, ?_, fun f f1 f2 => by rw [i4 f f1 f2, va_up_ne _ _ f2, va_up_ne _ _ f1]⟩
        rw [i3, va_up_ne _ _ (show (196 : Nat) ≠ 197 by decide), va_up_self, show e - p = (e - (p + 1)) + 1 by omega]
        rfl
      · rw [isD_0 d, if_pos (show (0 : Int32) = 0 from rfl)]
        have e1 := spn_z hs (Or.inr d)
        subst e1
        exact ⟨I, rfl, hp, by rw [Nat.sub_self]; rfl, fun _ _ _ => rfl⟩
theorem takeN_v {n : Nat} (h3 : n ≤ 300) {I : Nat → Int32} {p e : Nat} (hn : (I 193).toInt = (n : Int)) (hp : (I 197).toInt = (p : Int)) (hpn : p ≤ n) (hs : spn dgt (ri 192) n p e) : ∃ I', g_X6_takeNumber_x I J ri rj rq = (I', J, ri, rj, rq) ∧ (I' 197).toInt = (e : Int) ∧ I' 194 = 18 ∧ I' 196 = nvC (ri 192) (e - p) p 0 ∧ ∀ f, f ≠ 194 → f ≠ 196 → f ≠ 197 → I' f = I f := by
  rw [g_X6_takeNumber_x_e]
  simp only [↓ap1_n]
  have w : va_up (va_up I 194 18) 196 0 197 = I 197 := by rw [va_up_ne _ _ (show (197 : Nat) ≠ 196 by decide), va_up_ne _ _ (show (197 : Nat) ≠ 194 by decide)]
  rw [w]
  obtain ⟨I', i1, i2, i3, i4⟩ := takeN_L (J := J) (rj := rj) (rq := rq) h3 ((300 - (I 197).toInt).toNat + 1) (va_up (va_up I 194 18) 196 0) p e (by rw [va_up_ne _ _ (show (193 : Nat) ≠ 196 by decide), va_up_ne _ _ (show (193 : Nat) ≠ 194 by decide)]; exact hn) (by rw [w]; exact hp) hpn (by omega) hs
  refine ⟨I', i1, i2, ?_, ?_, fun f f1 f2 f3 => by rw [i4 f f2 f3, va_up_ne _ _ f2, va_up_ne _ _ f1]⟩
  · rw [i4 194 (by decide) (by decide), va_up_ne _ _ (show (194 : Nat) ≠ 196 by decide), va_up_self]
  · rw [i3, va_up_self]
/-! the words -/
def txW (k : Nat) : Int32 := txB.getD k 0 &&& 255
theorem txC_n {x : Int32} {p : Nat} (h : x.toInt = (p : Int)) : txC x = txW p := by
  unfold txC txW
  rw [at_n h]
/-- so many signs behind s are those of the words behind o -/
def mt (T : Nat → Int32) : Nat → Nat → Nat → Prop
  | 0, _, _ => True
  | l + 1, s, o => T s = txW o ∧ mt T l (s + 1) (o + 1)
theorem mt_at {T : Nat → Int32} : ∀ (l s o : Nat), mt T l s o ↔ ∀ j, j < l → T (s + j) = txW (o + j)
  | 0, s, o => ⟨fun _ j hj => absurd hj (Nat.not_lt_zero _), fun _ => trivial⟩
  | l + 1, s, o => by
    show (T s = txW o ∧ mt T l (s + 1) (o + 1)) ↔ _
    rw [mt_at l (s + 1) (o + 1)]
    constructor
    · intro ⟨a, b⟩ j hj
      cases j with
      | zero => exact a
      | succ j => rw [show s + (j + 1) = s + 1 + j by omega, show o + (j + 1) = o + 1 + j by omega]; exact b j (by omega)
    · intro h
      exact ⟨h 0 (by omega), fun j hj => by rw [show s + 1 + j = s + (j + 1) by omega, show o + 1 + j = o + (j + 1) by omega]; exact h (j + 1) (by omega)⟩
/-- the word from s to e is the one of l signs at o -/
def isW (T : Nat → Int32) (s e o l : Nat) : Prop := e = s + l ∧ mt T l s o
/-- one word of the row: what is left of it is d signs; lk: all ahead was alike -/
theorem word_1 {n : Nat} {s e o l : Nat} {k : Int32} {I : Nat → Int32} (hs : s ≤ e) (he : e ≤ n) (h3 : n ≤ 300) (hsI : (I 195).toInt = (s : Int)) (heI : (I 197).toInt = (e : Int)) (h34 : I 194 = 34) (ho : o + l < 94) (hW : ∀ j, j < l → txW (o + j) ≠ 32) (hB : txW (o + l) = 32) : ∀ (d j : Nat) (x2 x3 x4 : Int32), d + j = l → x2.toInt = ((s + j : Nat) : Int) → x4.toInt = ((o + j : Nat) : Int) → ((x3 = 1 ∧ s + j ≤ e ∧ ∀ i, i < j → ri 192 (s + i) = txW (o + i)) ∨ (x3 = 0 ∧ ¬ (s + j ≤ e ∧ ∀ i, i < j → ri 192 (s + i) = txW (o + i)))) → (isW (ri 192) s e o l ∧ ∃ x2' x3' x4', x4'.toInt = ((o + l + 1 : Nat) : Int) ∧ g_X6_takeWord_L57 J ri rj rq (95 - (o + j)) k x2 x3 x4 I = g_X6_takeWord_L57 J ri rj rq (95 - (o + l + 1)) k x2' x3' x4' (va_up I 194 k)) ∨ (¬ isW (ri 192) s e o l ∧ ∃ x4', x4'.toInt = ((o + l + 1 : Nat) : Int) ∧ g_X6_takeWord_L57 J ri rj rq (95 - (o + j)) k x2 x3 x4 I = g_X6_takeWord_L57 J ri rj rq (95 - (o + l + 1)) (k + Int32.ofInt 1) (I 195) 1 x4' I) := by
  have k94 : (94 : Int32).toInt = ((94 : Nat) : Int) := by decide
  intro d
  induction d with
  | zero =>
    intro j x2 x3 x4 hd h2 h4 hk
    have hj : j = l := by omega
    subst hj
    rw [show 95 - (o + j) = (95 - (o + j + 1)) + 1 by omega, g_X6_takeWord_L57_e]
    simp only [↓ap1_n]
    rw [if_neg (fun q => by have := (le_n k94 h4).mp q; omega), if_pos h34, txC_n h4, if_pos hB]
    rcases hk with ⟨a, b, c⟩ | ⟨a, b⟩
    · rw [a, if_neg (show ¬ (1 : Int32) = 0 by decide)]
      by_cases q : x2 = I 197
      · have q1 := (eq_n h2 heI).mp q
        rw [if_pos q]
        exact Or.inl ⟨⟨q1.symm, (mt_at _ _ _).mpr c⟩, x2, 1, x4 + Int32.ofInt 1, up_i h4 (by omega), rfl⟩
      · have q1 : ¬ s + j = e := fun y => q ((eq_n h2 heI).mpr y)
        rw [if_neg q]
        exact Or.inr ⟨fun y => q1 y.1.symm, x4 + Int32.ofInt 1, up_i h4 (by omega), rfl⟩
    · rw [a, if_pos (show (0 : Int32) = 0 from rfl)]
      exact Or.inr ⟨fun y => b ⟨by have := y.1; omega, (mt_at _ _ _).mp y.2⟩, x4 + Int32.ofInt 1, up_i h4 (by omega), rfl⟩
  | succ d ih =>
    intro j x2 x3 x4 hd h2 h4 hk
    rw [show 95 - (o + j) = (95 - (o + (j + 1))) + 1 by omega, g_X6_takeWord_L57_e]
    simp only [↓ap1_n]
    have k32 := hW j (by omega)
    rw [if_neg (fun q => by have := (le_n k94 h4).mp q; omega), if_pos h34, txC_n h4, if_neg k32]
    have u2 : (x2 + Int32.ofInt 1).toInt = ((s + (j + 1) : Nat) : Int) := up_i (p := s + j) h2 (by omega)
    have u4 : (x4 + Int32.ofInt 1).toInt = ((o + (j + 1) : Nat) : Int) := up_i (p := o + j) h4 (by omega)
    rcases hk with ⟨a, b, c⟩ | ⟨a, b⟩
    · rw [a, if_neg (show ¬ (1 : Int32) = 0 by decide)]
      by_cases q : I 197 ≤ x2
      · have q1 := (le_n heI h2).mp q
        rw [if_pos q]
        exact ih (j + 1) _ 0 _ (by omega) u2 u4 (Or.inr ⟨rfl, fun y => absurd y.1 (by omega)⟩)
      · have q1 : ¬ e ≤ s + j := fun y => q ((le_n heI h2).mpr y)
        rw [if_neg q, at_n h2]
        by_cases w : ri 192 (s + j) = txW (o + j)
        · rw [if_pos w]
          refine ih (j + 1) _ 1 _ (by omega) u2 u4 (Or.inl ⟨rfl, by omega, fun i hi => ?_⟩)
          by_cases z : i = j
          · rw [z]; exact w
          · exact c i (by omega)
        · rw [if_neg w]
          exact ih (j + 1) _ 0 _ (by omega) u2 u4 (Or.inr ⟨rfl, fun y => w (y.2 j (by omega))⟩)
    · rw [a, if_pos (show (0 : Int32) = 0 from rfl)]
      exact ih (j + 1) _ 0 _ (by omega) u2 u4 (Or.inr ⟨rfl, fun y => b ⟨by omega, fun i hi => y.2 i (by omega)⟩⟩)
theorem word_end {m : Nat} {k x2 x3 x4 : Int32} {I : Nat → Int32} (h : I 194 ≠ 34) : g_X6_takeWord_L57 J ri rj rq m k x2 x3 x4 I = (I, J, ri, rj, rq) := by
  cases m with
  | zero => rfl
  | succ m =>
    rw [g_X6_takeWord_L57_e]
    simp only [↓ap1_n]
    by_cases c : (94 : Int32) ≤ x4
    · rw [if_pos c]
    · rw [if_neg c, if_neg h]
/-- which word it is: the first of a list (place, signs) -/
noncomputable def wtk (T : Nat → Int32) (s e : Nat) : List (Nat × Nat) → Int32 → Int32
  | [], _ => 34
  | a :: L, k => @ite _ (isW T s e a.1 a.2) (Classical.propDecidable _) k (wtk T s e L (k + Int32.ofInt 1))
/-- the list lies in the row from o on, one word behind the other -/
def wlay : Nat → List (Nat × Nat) → Prop
  | o, [] => o = 94
  | o, a :: L => a.1 = o ∧ o + a.2 < 94 ∧ (∀ j, j < a.2 → txW (o + j) ≠ 32) ∧ txW (o + a.2) = 32 ∧ wlay (o + a.2 + 1) L
theorem word_all {n : Nat} {s e : Nat} {I : Nat → Int32} (hs : s ≤ e) (he : e ≤ n) (h3 : n ≤ 300) (hsI : (I 195).toInt = (s : Int)) (heI : (I 197).toInt = (e : Int)) (h34 : I 194 = 34) : ∀ (L : List (Nat × Nat)) (o : Nat) (k x4 : Int32), wlay o L → k.toInt + L.length ≤ 30 → 0 ≤ k.toInt → x4.toInt = (o : Int) → ∃ I', g_X6_takeWord_L57 J ri rj rq (95 - o) k (I 195) 1 x4 I = (I', J, ri, rj, rq) ∧ I' 194 = wtk (ri 192) s e L k ∧ ∀ f, f ≠ 194 → I' f = I f
  | [], o, k, x4, hl, hk, hk0, h4 => by
    have ho : o = 94 := hl
    subst ho
    rw [show 95 - 94 = 0 + 1 from rfl, g_X6_takeWord_L57_e]
    rw [if_pos ((le_n (show (94 : Int32).toInt = ((94 : Nat) : Int) by decide) h4).mpr (Nat.le_refl _))]
    exact ⟨I, rfl, h34, fun _ _ => rfl⟩
  | a :: L, o, k, x4, hl, hk, hk0, h4 => by
    obtain ⟨l1, l2, l3, l4, l5⟩ := hl
    have hlen : (a :: L).length = L.length + 1 := rfl
    rw [hlen] at hk
    have uk : (k + Int32.ofInt 1).toInt = k.toInt + 1 := t1_inc (by omega) (by omega)
    have hne : k ≠ 34 := fun q => by rw [q] at hk; have : (34 : Int32).toInt = 34 := by decide
                                     omega
    rcases word_1 (J := J) (rj := rj) (rq := rq) (k := k) hs he h3 hsI heI h34 l2 l3 l4 a.2 0 (I 195) 1 x4 (by omega) (by omega) (by omega) (Or.inl ⟨rfl, hs, fun i hi => absurd hi (Nat.not_lt_zero _)⟩) with ⟨w, x2', x3', x4', w1, w2⟩ | ⟨w, x4', w1, w2⟩
    · rw [show 95 - o = 95 - (o + 0) from rfl, w2, word_end (by rw [va_up_self]; exact hne)]
      refine ⟨_, rfl, ?_, fun f hf => va_up_ne _ _ hf⟩
      rw [va_up_self]
      show _ = @ite _ (isW (ri 192) s e a.1 a.2) (Classical.propDecidable _) k _
      rw [l1]
      exact (if_pos w).symm
    · rw [show 95 - o = 95 - (o + 0) from rfl, w2]
      obtain ⟨I', i1, i2, i3⟩ := word_all hs he h3 hsI heI h34 L (o + a.2 + 1) (k + Int32.ofInt 1) x4' l5 (by omega) (by omega) w1
      refine ⟨I', i1, ?_, i3⟩
      rw [i2]
      show _ = @ite _ (isW (ri 192) s e a.1 a.2) (Classical.propDecidable _) k _
      rw [l1]
      exact (if_neg w).symm
def WL : List (Nat × Nat) := [(0, 5), (6, 6), (13, 3), (17, 4), (22, 5), (28, 4), (33, 7), (41, 3), (45, 5), (51, 2), (54, 3), (58, 3), (62, 3), (66, 3), (70, 5), (76, 5), (82, 5), (88, 5)]
theorem wlay_s {o l : Nat} {L : List (Nat × Nat)} (h1 : o + l < 94) (h2 : ∀ j, j < l → txW (o + j) ≠ 32) (h3 : txW (o + l) = 32) (h4 : wlay (o + l + 1) L) : wlay o ((o, l) :: L) := by
  unfold wlay
  exact ⟨rfl, h1, h2, h3, h4⟩
theorem wlay_0 : wlay 0 WL := wlay_s (o := 0) (l := 5) (by decide) (by decide +kernel) (by decide +kernel) (wlay_s (o := 6) (l := 6) (by decide) (by decide +kernel) (by decide +kernel) (wlay_s (o := 13) (l := 3) (by decide) (by decide +kernel) (by decide +kernel) (wlay_s (o := 17) (l := 4) (by decide) (by decide +kernel) (by decide +kernel) (wlay_s (o := 22) (l := 5) (by decide) (by decide +kernel) (by decide +kernel) (wlay_s (o := 28) (l := 4) (by decide) (by decide +kernel) (by decide +kernel) (wlay_s (o := 33) (l := 7) (by decide) (by decide +kernel) (by decide +kernel) (wlay_s (o := 41) (l := 3) (by decide) (by decide +kernel) (by decide +kernel) (wlay_s (o := 45) (l := 5) (by decide) (by decide +kernel) (by decide +kernel) (wlay_s (o := 51) (l := 2) (by decide) (by decide +kernel) (by decide +kernel) (wlay_s (o := 54) (l := 3) (by decide) (by decide +kernel) (by decide +kernel) (wlay_s (o := 58) (l := 3) (by decide) (by decide +kernel) (by decide +kernel) (wlay_s (o := 62) (l := 3) (by decide) (by decide +kernel) (by decide +kernel) (wlay_s (o := 66) (l := 3) (by decide) (by decide +kernel) (by decide +kernel) (wlay_s (o := 70) (l := 5) (by decide) (by decide +kernel) (by decide +kernel) (wlay_s (o := 76) (l := 5) (by decide) (by decide +kernel) (by decide +kernel) (wlay_s (o := 82) (l := 5) (by decide) (by decide +kernel) (by decide +kernel) (wlay_s (o := 88) (l := 5) (by decide) (by decide +kernel) (by decide +kernel) ((rfl : (94 : Nat) = 94)))))))))))))))))))
theorem takeW_K {n : Nat} (h3 : n ≤ 300) {I : Nat → Int32} {s e : Nat} (hs : s ≤ e) (he : e ≤ n) (hsI : (I 195).toInt = (s : Int)) (heI : (I 197).toInt = (e : Int)) : ∃ I', g_X6_takeWord_K39 I J ri rj rq = (I', J, ri, rj, rq) ∧ I' 194 = wtk (ri 192) s e WL 0 ∧ ∀ f, f ≠ 194 → I' f = I f := by
  rw [g_X6_takeWord_K39_e]
  simp only [↓ap1_n]
  obtain ⟨I', i1, i2, i3⟩ := word_all (J := J) (ri := ri) (rj := rj) (rq := rq) (I := va_up I 194 34) hs he h3 (by rw [va_up_ne _ _ (show (195 : Nat) ≠ 194 by decide)]; exact hsI) (by rw [va_up_ne _ _ (show (197 : Nat) ≠ 194 by decide)]; exact heI) (va_up_self _ _ _) WL 0 0 0 wlay_0 (by decide) (by decide) (by decide)
  exact ⟨I', i1, i2, fun f hf => (i3 f hf).trans (va_up_ne _ _ hf)⟩
theorem takeW_L2 : ∀ (m : Nat) (x1 x2 x3 x4 : Int32) (I : Nat → Int32), g_X6_takeWord_L57_2 J ri rj rq m x1 x2 x3 x4 I = g_X6_takeWord_L57 J ri rj rq m x1 x2 x3 x4 I
  | 0, _, _, _, _, _ => rfl
  | m + 1, x1, x2, x3, x4, I => by
    have h : g_X6_takeWord_L57_2 J ri rj rq m = g_X6_takeWord_L57 J ri rj rq m := funext fun _ => funext fun _ => funext fun _ => funext fun _ => funext fun _ => takeW_L2 m _ _ _ _ _
    rw [g_X6_takeWord_L57_2_e, g_X6_takeWord_L57_e, h]
theorem takeW_K2 {I : Nat → Int32} : g_X6_takeWord_K39_2 J ri rj rq I = g_X6_takeWord_K39 I J ri rj rq := by
  rw [g_X6_takeWord_K39_2_e, g_X6_takeWord_K39_e]
  simp only [↓ap1_n, takeW_L2]
theorem takeW_L {n : Nat} (h3 : n ≤ 300) : ∀ (m : Nat) (I : Nat → Int32) (p s e : Nat), (I 193).toInt = (n : Int) → (I 197).toInt = (p : Int) → (I 195).toInt = (s : Int) → s ≤ p → p ≤ n → 300 - p < m → spn ltr (ri 192) n p e → ∃ I', g_X6_takeWord_L0 J ri rj rq m I = (I', J, ri, rj, rq) ∧ (I' 197).toInt = (e : Int) ∧ I' 194 = wtk (ri 192) s e WL 0 ∧ ∀ f, f ≠ 194 → f ≠ 197 → I' f = I f := by
  intro m
  induction m with
  | zero => intro I p s e _ _ _ _ _ h; exact absurd h (Nat.not_lt_zero _)
  | succ m ih =>
    intro I p s e hn hp hsI hsp hpn hm hs
    have done : e = p → ∃ I', g_X6_takeWord_K39_2 J ri rj rq I = (I', J, ri, rj, rq) ∧ (I' 197).toInt = (e : Int) ∧ I' 194 = wtk (ri 192) s e WL 0 ∧ ∀ f, f ≠ 194 → f ≠ 197 → I' f = I f := fun e1 => by
      subst e1
      obtain ⟨I', i1, i2, i3⟩ := takeW_K (J := J) (ri := ri) (rj := rj) (rq := rq) h3 hsp hpn hsI hp
      exact ⟨I', takeW_K2.trans i1, by rw [i3 197 (by decide)]; exact hp, i2, fun f f1 _ => i3 f f1⟩
    rw [g_X6_takeWord_L0_e]
    simp only [↓ap1_n]
    by_cases c : I 193 ≤ I 197
    · rw [if_pos c]
      exact done (spn_z hs (Or.inl ((le_n hn hp).mp c)))
    · have c1 : p < n := Nat.lt_of_not_le (fun q => c ((le_n hn hp).mpr q))
      rw [if_neg c, at_n hp]
      by_cases d : ltr (ri 192 p)
      · rw [isL_1 d, if_neg (show ¬ (1 : Int32) = 0 by decide)]
        obtain ⟨s1, s2⟩ := spn_s hs c1 d
        obtain ⟨I', i1, i2, i3, i4⟩ := ih (va_up I 197 (I 197 + 1)) (p + 1) s e (by rw [va_up_ne _ _ (show (193 : Nat) ≠ 197 by decide)]; exact hn) (by rw [va_up_self]; exact upN hp (by omega)) (by rw [va_up_ne _ _ (show (195 : Nat) ≠ 197 by decide)]; exact hsI) (by omega) (by omega) (by omega) s2
        exact ⟨I', i1, i2, i3, fun f f1 f2 => (i4 f f1 f2).trans (va_up_ne _ _ f2)⟩
      · rw [isL_0 d, if_pos (show (0 : Int32) = 0 from rfl)]
        exact done (spn_z hs (Or.inr d))
theorem takeW_v {n : Nat} (h3 : n ≤ 300) {I : Nat → Int32} {s e : Nat} (hn : (I 193).toInt = (n : Int)) (hp : (I 197).toInt = (s : Int)) (hsI : (I 195).toInt = (s : Int)) (hsn : s < n) (hl : ltr (ri 192 s)) (hs : spn ltr (ri 192) n s e) : ∃ I', g_X6_takeWord I J ri rj rq = (I', J, ri, rj, rq) ∧ (I' 197).toInt = (e : Int) ∧ I' 194 = wtk (ri 192) s e WL 0 ∧ ∀ f, f ≠ 194 → f ≠ 197 → I' f = I f := by
  rw [g_X6_takeWord_e]
  simp only [↓ap1_n]
  rw [if_neg (fun q => by have := (le_n hn hp).mp q; omega), at_n hp, isL_1 hl, if_neg (show ¬ (1 : Int32) = 0 by decide)]
  obtain ⟨s1, s2⟩ := spn_s hs hsn hl
  have up := upN hp (by omega)
  have w : va_up I 197 (I 197 + 1) 197 = I 197 + 1 := va_up_self _ _ _
  rw [w]
  obtain ⟨I', i1, i2, i3, i4⟩ := takeW_L (J := J) (ri := ri) (rj := rj) (rq := rq) h3 ((300 - (I 197 + 1).toInt).toNat + 1) (va_up I 197 (I 197 + 1)) (s + 1) s e (by rw [va_up_ne _ _ (show (193 : Nat) ≠ 197 by decide)]; exact hn) (by rw [w]; exact up) (by rw [va_up_ne _ _ (show (195 : Nat) ≠ 197 by decide)]; exact hsI) (by omega) (by omega) (by omega) s2
  exact ⟨I', i1, i2, i3, fun f f1 f2 => (i4 f f1 f2).trans (va_up_ne _ _ f2)⟩
/-! a TOKEN as the class takes it -/
theorem adv_K2 {I : Nat → Int32} {y : Int32} : g_X6_advance_K52_2 J ri rj rq I y = g_X6_advance_K52 I J ri rj rq y := by rw [g_X6_advance_K52_2_e, g_X6_advance_K52_e]
theorem adv_K3 {I : Nat → Int32} {y : Int32} : g_X6_advance_K52_3 J ri rj rq I y = g_X6_advance_K52 I J ri rj rq y := by rw [g_X6_advance_K52_3_e, g_X6_advance_K52_e]
theorem adv_L2 : ∀ (m : Nat) (I : Nat → Int32), g_X6_advance_L0_2 J ri rj rq m I = g_X6_advance_L0 J ri rj rq m I
  | 0, _ => rfl
  | m + 1, I => by
    have h : g_X6_advance_L0_2 J ri rj rq m = g_X6_advance_L0 J ri rj rq m := funext fun _ => adv_L2 m _
    rw [g_X6_advance_L0_2_e, g_X6_advance_L0_e, h]
    simp only [adv_K2, adv_K3]
theorem adv_L {n : Nat} (h3 : n ≤ 300) : ∀ (m : Nat) (I : Nat → Int32) (p s : Nat), (I 193).toInt = (n : Int) → (I 197).toInt = (p : Int) → p ≤ n → 300 - p < m → spn blk (ri 192) n p s → ∃ I', g_X6_advance_L0 J ri rj rq m I = g_X6_advance_K52 I' J ri rj rq (I' 197) ∧ (I' 197).toInt = (s : Int) ∧ ∀ f, f ≠ 197 → I' f = I f := by
  intro m
  induction m with
  | zero => intro I p s _ _ _ h; exact absurd h (Nat.not_lt_zero _)
  | succ m ih =>
    intro I p s hn hp hpn hm hs
    rw [g_X6_advance_L0_e]
    simp only [↓ap1_n, adv_K2]
    by_cases c : I 193 ≤ I 197
    · rw [if_pos c]
      have e1 := spn_z hs (Or.inl ((le_n hn hp).mp c))
      subst e1
      exact ⟨I, rfl, hp, fun _ _ => rfl⟩
    · have c1 : p < n := Nat.lt_of_not_le (fun q => c ((le_n hn hp).mpr q))
      rw [if_neg c, at_n hp]
      have go : blk (ri 192 p) → ∃ I', g_X6_advance_L0 J ri rj rq m (va_up I 197 (I 197 + 1)) = g_X6_advance_K52 I' J ri rj rq (I' 197) ∧ (I' 197).toInt = (s : Int) ∧ ∀ f, f ≠ 197 → I' f = I f := fun d => by
        obtain ⟨s1, s2⟩ := spn_s hs c1 d
        obtain ⟨I', i1, i2, i3⟩ := ih (va_up I 197 (I 197 + 1)) (p + 1) s (by rw [va_up_ne _ _ (show (193 : Nat) ≠ 197 by decide)]; exact hn) (by rw [va_up_self]; exact upN hp (by omega)) (by omega) (by omega) s2
        exact ⟨I', i1, i2, fun f hf => (i3 f hf).trans (va_up_ne _ _ hf)⟩
      by_cases d1 : ri 192 p = 32
      · rw [if_pos d1]
        exact go (Or.inl d1)
      · rw [if_neg d1]
        by_cases d2 : ri 192 p = 10
        · rw [if_pos d2]
          exact go (Or.inr d2)
        · rw [if_neg d2]
          have e1 := spn_z hs (Or.inr (fun q => by rcases q with y | y; exact d1 y; exact d2 y))
          subst e1
          exact ⟨I, rfl, hp, fun _ _ => rfl⟩
theorem adv_0 {n : Nat} (h3 : n ≤ 300) {I : Nat → Int32} {p s : Nat} (hn : (I 193).toInt = (n : Int)) (hp : (I 197).toInt = (p : Int)) (hpn : p ≤ n) (hs : spn blk (ri 192) n p s) : ∃ I', g_X6_advance I J ri rj rq = g_X6_advance_K52 I' J ri rj rq (I' 197) ∧ (I' 197).toInt = (s : Int) ∧ ∀ f, f ≠ 197 → I' f = I f := by
  rw [g_X6_advance_e]
  simp only [↓ap1_n, adv_L2]
  by_cases c : I 193 ≤ I 197
  · rw [if_pos c]
    have e1 := spn_z hs (Or.inl ((le_n hn hp).mp c))
    subst e1
    exact ⟨I, rfl, hp, fun _ _ => rfl⟩
  · have c1 : p < n := Nat.lt_of_not_le (fun q => c ((le_n hn hp).mpr q))
    rw [if_neg c, at_n hp]
    have go : blk (ri 192 p) → ∃ I', g_X6_advance_L0 J ri rj rq ((300 - (va_up I 197 (I 197 + 1) 197).toInt).toNat + 1) (va_up I 197 (I 197 + 1)) = g_X6_advance_K52 I' J ri rj rq (I' 197) ∧ (I' 197).toInt = (s : Int) ∧ ∀ f, f ≠ 197 → I' f = I f := fun d => by
      obtain ⟨s1, s2⟩ := spn_s hs c1 d
      have up := upN hp (by omega)
      rw [va_up_self]
      obtain ⟨I', i1, i2, i3⟩ := adv_L (J := J) (ri := ri) (rj := rj) (rq := rq) h3 ((300 - (I 197 + 1).toInt).toNat + 1) (va_up I 197 (I 197 + 1)) (p + 1) s (by rw [va_up_ne _ _ (show (193 : Nat) ≠ 197 by decide)]; exact hn) (by rw [va_up_self]; exact up) (by omega) (by omega) s2
      exact ⟨I', i1, i2, fun f hf => (i3 f hf).trans (va_up_ne _ _ hf)⟩
    by_cases d1 : ri 192 p = 32
    · rw [if_pos d1]
      exact go (Or.inl d1)
    · rw [if_neg d1]
      by_cases d2 : ri 192 p = 10
      · rw [if_pos d2]
        exact go (Or.inr d2)
      · rw [if_neg d2]
        have e1 := spn_z hs (Or.inr (fun q => by rcases q with y | y; exact d1 y; exact d2 y))
        subst e1
        exact ⟨I, rfl, hp, fun _ _ => rfl⟩
/-- what is behind a sign: its TOKEN and where it ends -/
def sgT (T : Nat → Int32) (n s : Nat) : Int32 := if s + 1 < n ∧ T (s + 1) = 61 then (if g_X6_signOf (T s) = 19 then 20 else if g_X6_signOf (T s) = 21 then 22 else g_X6_signOf (T s)) else g_X6_signOf (T s)
def sgE (T : Nat → Int32) (n s : Nat) : Nat := if s + 1 < n ∧ T (s + 1) = 61 ∧ (g_X6_signOf (T s) = 19 ∨ g_X6_signOf (T s) = 21) then s + 2 else s + 1
theorem takeL_v {n : Nat} (h3 : n ≤ 300) {I : Nat → Int32} {s : Nat} (hn : (I 193).toInt = (n : Int)) (hp : (I 197).toInt = ((s + 1 : Nat) : Int)) (hsn : s < n) (ht : I 194 = g_X6_signOf (ri 192 s)) : ∃ I', g_X6_takeLonger_x I J ri rj rq = (I', J, ri, rj, rq) ∧ (I' 197).toInt = (sgE (ri 192) n s : Int) ∧ I' 194 = sgT (ri 192) n s ∧ ∀ f, f ≠ 194 → f ≠ 197 → I' f = I f := by
  rw [g_X6_takeLonger_x_e]
  simp only [↓ap1_n]
  have hE : ∀ q : g_X6_signOf (ri 192 s) = 19 ∨ g_X6_signOf (ri 192 s) = 21, s + 1 < n → ri 192 (s + 1) = 61 → (s + 1 < n ∧ ri 192 (s + 1) = 61 ∧ (g_X6_signOf (ri 192 s) = 19 ∨ g_X6_signOf (ri 192 s) = 21)) := fun q a b => ⟨a, b, q⟩
  unfold sgE sgT
  by_cases c : I 193 ≤ I 197
  · have c1 := (le_n hn hp).mp c
    rw [if_pos c, if_neg (show ¬ (s + 1 < n ∧ ri 192 (s + 1) = 61 ∧ (g_X6_signOf (ri 192 s) = 19 ∨ g_X6_signOf (ri 192 s) = 21)) from fun q => by have := q.1; omega), if_neg (show ¬ (s + 1 < n ∧ ri 192 (s + 1) = 61) from fun q => by have := q.1; omega)]
    exact ⟨I, rfl, hp, ht, fun _ _ _ => rfl⟩
  · have c1 : s + 1 < n := Nat.lt_of_not_le (fun q => c ((le_n hn hp).mpr q))
    rw [if_neg c, at_n hp]
    by_cases d : ri 192 (s + 1) = 61
    · rw [if_pos d, if_pos (show s + 1 < n ∧ ri 192 (s + 1) = 61 from ⟨c1, d⟩)]
      by_cases q1 : g_X6_signOf (ri 192 s) = 19
      · rw [if_pos (ht.trans q1), if_pos q1, if_pos (hE (Or.inl q1) c1 d)]
        refine ⟨_, rfl, ?_, ?_, fun f f1 f2 => (va_up_ne _ _ f2).trans (va_up_ne _ _ f1)⟩
        · rw [va_up_self, va_up_ne _ _ (show (197 : Nat) ≠ 194 by decide)]
          exact upN hp (by omega)
        · rw [va_up_ne _ _ (show (194 : Nat) ≠ 197 by decide), va_up_self]
      · rw [if_neg (fun y => q1 (ht.symm.trans y)), if_neg q1]
        by_cases q2 : g_X6_signOf (ri 192 s) = 21
        · rw [if_pos (ht.trans q2), if_pos q2, if_pos (hE (Or.inr q2) c1 d)]
          refine ⟨_, rfl, ?_, ?_, fun f f1 f2 => (va_up_ne _ _ f2).trans (va_up_ne _ _ f1)⟩
          · rw [va_up_self, va_up_ne _ _ (show (197 : Nat) ≠ 194 by decide)]
            exact upN hp (by omega)
          · rw [va_up_ne _ _ (show (194 : Nat) ≠ 197 by decide), va_up_self]
        · rw [if_neg (fun y => q2 (ht.symm.trans y)), if_neg q2, if_neg (show ¬ (s + 1 < n ∧ ri 192 (s + 1) = 61 ∧ (g_X6_signOf (ri 192 s) = 19 ∨ g_X6_signOf (ri 192 s) = 21)) from fun y => by rcases y.2.2 with z | z; exact q1 z; exact q2 z)]
          exact ⟨I, rfl, hp, ht, fun _ _ _ => rfl⟩
    · rw [if_neg d, if_neg (show ¬ (s + 1 < n ∧ ri 192 (s + 1) = 61 ∧ (g_X6_signOf (ri 192 s) = 19 ∨ g_X6_signOf (ri 192 s) = 21)) from fun q => d q.2.1), if_neg (show ¬ (s + 1 < n ∧ ri 192 (s + 1) = 61) from fun q => d q.2)]
      exact ⟨I, rfl, hp, ht, fun _ _ _ => rfl⟩
/-- the TOKEN of the tape from p on: c is its number, s where it begins, e where it ends, v its value if it is a NUMBER -/
def TKC (T : Nat → Int32) (n p : Nat) (c : Int32) (s e : Nat) (v : Int32) : Prop := spn blk T n p s ∧ ((s = n ∧ e = n ∧ c = 33) ∨ (s < n ∧ dgt (T s) ∧ spn dgt T n s e ∧ c = 18 ∧ v = nvC T (e - s) s 0) ∨ (s < n ∧ ltr (T s) ∧ spn ltr T n s e ∧ c = wtk T s e WL 0) ∨ (s < n ∧ ¬ dgt (T s) ∧ ¬ ltr (T s) ∧ e = sgE T n s ∧ c = sgT T n s))
theorem TKC_ex (T : Nat → Int32) {n p : Nat} (hp : p ≤ n) : ∃ c s e v, TKC T n p c s e v := by
  obtain ⟨s, hs⟩ := spn_ex blk T n (n - p) p hp rfl
  have hsn := hs.2.1
  by_cases c1 : s = n
  · exact ⟨33, s, n, 0, hs, Or.inl ⟨c1, rfl, rfl⟩⟩
  · have c2 : s < n := by omega
    by_cases d : dgt (T s)
    · obtain ⟨e, he⟩ := spn_ex dgt T n (n - s) s hsn rfl
      exact ⟨18, s, e, nvC T (e - s) s 0, hs, Or.inr (Or.inl ⟨c2, d, he, rfl, rfl⟩)⟩
    · by_cases l : ltr (T s)
      · obtain ⟨e, he⟩ := spn_ex ltr T n (n - s) s hsn rfl
        exact ⟨wtk T s e WL 0, s, e, 0, hs, Or.inr (Or.inr (Or.inl ⟨c2, l, he, rfl⟩))⟩
      · exact ⟨sgT T n s, s, sgE T n s, 0, hs, Or.inr (Or.inr (Or.inr ⟨c2, d, l, rfl, rfl⟩))⟩
theorem TKC_le {T : Nat → Int32} {n p s e : Nat} {c v : Int32} (h : TKC T n p c s e v) : p ≤ s ∧ s ≤ n ∧ e ≤ n ∧ s ≤ e ∧ (s < n → s < e) := by
  obtain ⟨h0, h⟩ := h
  refine ⟨h0.1, h0.2.1, ?_⟩
  rcases h with ⟨a, b, -⟩ | ⟨a, b, c, -⟩ | ⟨a, b, c, -⟩ | ⟨a, -, -, d, -⟩
  · exact ⟨by omega, by have := h0.2.1; omega, fun q => absurd a (by omega)⟩
  · have z1 := (spn_s c a b).1
    have z2 := c.2.1
    exact ⟨z2, by omega, fun _ => z1⟩
  · have z1 := (spn_s c a b).1
    have z2 := c.2.1
    exact ⟨z2, by omega, fun _ => z1⟩
  · have z1 : s < sgE T n s ∧ sgE T n s ≤ n := by
      unfold sgE
      split
      · next q => have := q.1; omega
      · omega
    rw [d]
    exact ⟨z1.2, by omega, fun _ => z1.1⟩
theorem wtk_le {T : Nat → Int32} {s e : Nat} : ∀ (L : List (Nat × Nat)) (k : Int32), 0 ≤ k.toInt → k.toInt + L.length ≤ 18 → (wtk T s e L k).toInt ≤ 17 ∨ wtk T s e L k = 34
  | [], k, _, _ => Or.inr rfl
  | a :: L, k, h0, h => by
    have hlen : (a :: L).length = L.length + 1 := rfl
    rw [hlen] at h
    have uk : (k + Int32.ofInt 1).toInt = k.toInt + 1 := t1_inc (by omega) (by omega)
    show (@ite _ (isW T s e a.1 a.2) (Classical.propDecidable _) k (wtk T s e L (k + Int32.ofInt 1))).toInt ≤ 17 ∨ @ite _ (isW T s e a.1 a.2) (Classical.propDecidable _) k (wtk T s e L (k + Int32.ofInt 1)) = 34
    by_cases w : isW T s e a.1 a.2
    · rw [if_pos w]; exact Or.inl (by omega)
    · rw [if_neg w]; exact wtk_le L _ (by omega) (by omega)
theorem wtk_18 {T : Nat → Int32} {s e : Nat} : wtk T s e WL 0 ≠ 18 := fun q => by
  rcases wtk_le (T := T) (s := s) (e := e) WL 0 (by decide) (by decide) with h | h
  · rw [q] at h; exact absurd h (by decide)
  · rw [q] at h; exact absurd h (by decide)
theorem ite_in {c : Prop} [Decidable c] {a b : Int32} {L : List Int32} (ha : a ∈ L) (hb : b ∈ L) : (if c then a else b) ∈ L := by
  by_cases h : c
  · rw [if_pos h]; exact ha
  · rw [if_neg h]; exact hb
theorem sgO_in (x : Int32) : g_X6_signOf x ∈ [(19 : Int32), 21, 23, 24, 25, 26, 27, 28, 29, 30, 31, 32, 34] := by
  rw [g_X6_signOf_e]
  repeat (refine ite_in (by decide) ?_)
  decide
theorem sgT_18 {T : Nat → Int32} {n s : Nat} : sgT T n s ≠ 18 := by
  have h := sgO_in (T s)
  unfold sgT
  repeat' split
  · decide
  · decide
  · intro q; rw [q] at h; exact absurd h (by decide)
  · intro q; rw [q] at h; exact absurd h (by decide)
theorem sgT_33 {T : Nat → Int32} {n s : Nat} : sgT T n s ≠ 33 := by
  have h := sgO_in (T s)
  unfold sgT
  repeat' split
  · decide
  · decide
  · intro q; rw [q] at h; exact absurd h (by decide)
  · intro q; rw [q] at h; exact absurd h (by decide)
theorem adv_v {n : Nat} (h3 : n ≤ 300) {I : Nat → Int32} {p s e : Nat} {c v : Int32} (hn : (I 193).toInt = (n : Int)) (hp : (I 197).toInt = (p : Int)) (hpn : p ≤ n) (ht : TKC (ri 192) n p c s e v) : ∃ I', g_X6_advance I J ri rj rq = (I', J, ri, rj, rq) ∧ I' 194 = c ∧ (I' 195).toInt = (s : Int) ∧ (I' 197).toInt = (e : Int) ∧ (c = 18 → I' 196 = v) ∧ ∀ f, f ≠ 194 → f ≠ 195 → f ≠ 196 → f ≠ 197 → I' f = I f := by
  obtain ⟨h0, h⟩ := ht
  obtain ⟨I1, a1, a2, a3⟩ := adv_0 (J := J) (ri := ri) (rj := rj) (rq := rq) h3 hn hp hpn h0
  rw [a1, g_X6_advance_K52_e]
  simp only [↓ap1_n]
  have z7 : va_up I1 195 (I1 197) 197 = I1 197 := va_up_ne _ _ (by decide)
  have z3 : va_up I1 195 (I1 197) 193 = I 193 := (va_up_ne _ _ (by decide)).trans (a3 193 (by decide))
  have hn1 : (va_up I1 195 (I1 197) 193).toInt = (n : Int) := by rw [z3]; exact hn
  have hp1 : (va_up I1 195 (I1 197) 197).toInt = (s : Int) := by rw [z7]; exact a2
  have hs1 : (va_up I1 195 (I1 197) 195).toInt = (s : Int) := by rw [va_up_self]; exact a2
  have fr : ∀ f, f ≠ 195 → f ≠ 197 → va_up I1 195 (I1 197) f = I f := fun f f1 f2 => (va_up_ne _ _ f1).trans (a3 f f2)
  rw [z7, z3]
  generalize va_up I1 195 (I1 197) = I2 at z7 z3 hn1 hp1 hs1 fr ⊢
  rcases h with ⟨b1, b2, b3⟩ | ⟨b1, b2, b3, b4, b5⟩ | ⟨b1, b2, b3, b4⟩ | ⟨b1, b2, b3, b4, b5⟩
  · rw [if_neg (fun q => by have := (lt_n a2 hn).mp q; omega)]
    refine ⟨_, rfl, by rw [va_up_self]; exact b3.symm, ?_, ?_, fun q => by rw [b3] at q; exact absurd q (by decide), fun f f1 f2 f3 f4 => (va_up_ne _ _ f1).trans (fr f f2 f4)⟩
    · rw [va_up_ne _ _ (show (195 : Nat) ≠ 194 by decide)]; exact hs1
    · rw [va_up_ne _ _ (show (197 : Nat) ≠ 194 by decide), hp1, b1, b2]
  · rw [if_pos ((lt_n a2 hn).mpr b1), at_n a2, isD_1 b2, if_neg (show ¬ (1 : Int32) = 0 by decide)]
    obtain ⟨I', i1, i2, i3, i4, i5⟩ := takeN_v (J := J) (ri := ri) (rj := rj) (rq := rq) h3 hn1 hp1 (by omega) b3
    rw [bv_n i1]
    exact ⟨I', rfl, by rw [i3, b4], by rw [i5 195 (by decide) (by decide) (by decide)]; exact hs1, i2, fun _ => by rw [i4, b5], fun f f1 f2 f3 f4 => (i5 f f1 f3 f4).trans (fr f f2 f4)⟩
  · have nd : ¬ dgt (ri 192 s) := fun q => by unfold dgt at q; unfold ltr at b2; omega
    rw [if_pos ((lt_n a2 hn).mpr b1), at_n a2, isD_0 nd, if_pos (show (0 : Int32) = 0 from rfl), isL_1 b2, if_neg (show ¬ (1 : Int32) = 0 by decide)]
    obtain ⟨I', i1, i2, i3, i4⟩ := takeW_v (J := J) (ri := ri) (rj := rj) (rq := rq) h3 hn1 hp1 hs1 b1 b2 b3
    rw [bv_n i1]
    exact ⟨I', rfl, by rw [i3, b4], by rw [i4 195 (by decide) (by decide)]; exact hs1, i2, fun q => absurd (b4.symm.trans q) wtk_18, fun f f1 f2 f3 f4 => (i4 f f1 f4).trans (fr f f2 f4)⟩
  · rw [if_pos ((lt_n a2 hn).mpr b1), at_n a2, isD_0 b2, if_pos (show (0 : Int32) = 0 from rfl), isL_0 b3, if_pos (show (0 : Int32) = 0 from rfl)]
    have w7 : va_up I2 194 (g_X6_signOf (ri 192 s)) 197 = I2 197 := va_up_ne _ _ (by decide)
    rw [w7]
    obtain ⟨I', i1, i2, i3, i4⟩ := takeL_v (J := J) (ri := ri) (rj := rj) (rq := rq) h3 (I := va_up (va_up I2 194 (g_X6_signOf (ri 192 s))) 197 (I2 197 + 1)) (s := s) (by rw [va_up_ne _ _ (show (193 : Nat) ≠ 197 by decide), va_up_ne _ _ (show (193 : Nat) ≠ 194 by decide)]; exact hn1) (by rw [va_up_self]; exact upN hp1 (by omega)) b1 (by rw [va_up_ne _ _ (show (194 : Nat) ≠ 197 by decide), va_up_self])
    rw [bv_n i1]
    exact ⟨I', rfl, by rw [i3, b5], by rw [i4 195 (by decide) (by decide), va_up_ne _ _ (show (195 : Nat) ≠ 197 by decide), va_up_ne _ _ (show (195 : Nat) ≠ 194 by decide)]; exact hs1, by rw [i2, b4], fun q => absurd (b5.symm.trans q) sgT_18, fun f f1 f2 f3 f4 => by rw [i4 f f1 f4, va_up_ne _ _ f4, va_up_ne _ _ f1]; exact fr f f2 f4⟩
end PR0
/-! ===== pure: TOKENS of the reference ===== -/
section PR1
theorem isI_m {x a b : Int32} : g_X12_isIn_x x a b = if a ≤ x ∧ x ≤ b then 1 else 0 := by
  rw [g_X12_isIn_x_e]
  by_cases c : x < a
  · rw [if_pos c, if_neg (show ¬ (a ≤ x ∧ x ≤ b) from fun q => absurd c (Int32.not_lt.mpr q.1))]
  · rw [if_neg c]
    by_cases d : b < x
    · rw [if_pos d, if_neg (show ¬ (a ≤ x ∧ x ≤ b) from fun q => absurd d (Int32.not_lt.mpr q.2))]
    · rw [if_neg d, if_pos (show a ≤ x ∧ x ≤ b from ⟨Int32.not_lt.mp c, Int32.not_lt.mp d⟩)]
theorem isI_1 {x a b : Int32} (h : a.toInt ≤ x.toInt ∧ x.toInt ≤ b.toInt) : g_X12_isIn_x x a b = 1 := by
  rw [isI_m, if_pos (show a ≤ x ∧ x ≤ b from ⟨Int32.le_iff_toInt_le.mpr h.1, Int32.le_iff_toInt_le.mpr h.2⟩)]
theorem isI_0 {x a b : Int32} (h : ¬ (a.toInt ≤ x.toInt ∧ x.toInt ≤ b.toInt)) : g_X12_isIn_x x a b = 0 := by
  rw [isI_m, if_neg (show ¬ (a ≤ x ∧ x ≤ b) from fun q => h ⟨Int32.le_iff_toInt_le.mp q.1, Int32.le_iff_toInt_le.mp q.2⟩)]
theorem mD_1 {x : Int32} (h : dgt x) : g_X12_isDigit_x x = 1 := by
  rw [g_X12_isDigit_x_e]
  try simp only [↓ap1_n]
  exact isI_1 h
theorem mD_0 {x : Int32} (h : ¬ dgt x) : g_X12_isDigit_x x = 0 := by
  rw [g_X12_isDigit_x_e]
  try simp only [↓ap1_n]
  exact isI_0 h
theorem mL_1 {x : Int32} (h : ltr x) : g_X12_isLetter_x x = 1 := by
  rw [g_X12_isLetter_x_e]
  try simp only [↓ap1_n]
  rcases h with y | y
  · rw [isI_0 (show ¬ ((97 : Int32).toInt ≤ x.toInt ∧ x.toInt ≤ (122 : Int32).toInt) from fun q => by have z := q.1; have k : (97 : Int32).toInt = 97 := by decide
                                                                                                      omega), if_pos (show (0 : Int32) = 0 from rfl), isI_1 (show (65 : Int32).toInt ≤ x.toInt ∧ x.toInt ≤ (90 : Int32).toInt from y), if_neg (show ¬ (1 : Int32) = 0 by decide)]
  · rw [isI_1 (show (97 : Int32).toInt ≤ x.toInt ∧ x.toInt ≤ (122 : Int32).toInt from y), if_neg (show ¬ (1 : Int32) = 0 by decide)]
theorem mL_0 {x : Int32} (h : ¬ ltr x) : g_X12_isLetter_x x = 0 := by
  rw [g_X12_isLetter_x_e]
  try simp only [↓ap1_n]
  rw [isI_0 (show ¬ ((97 : Int32).toInt ≤ x.toInt ∧ x.toInt ≤ (122 : Int32).toInt) from fun q => h (Or.inr q)), if_pos (show (0 : Int32) = 0 from rfl), isI_0 (show ¬ ((65 : Int32).toInt ≤ x.toInt ∧ x.toInt ≤ (90 : Int32).toInt) from fun q => h (Or.inl q)), if_pos (show (0 : Int32) = 0 from rfl)]
variable {J : Nat → Int64} {ri : Nat → Nat → Int32} {rj : Nat → Nat → Int64} {rq : Nat → Nat → Option Nat}
/-- the byte at p, -1 behind the last -/
def seeN (T : Nat → Int32) (n p : Nat) : Int32 := if n ≤ p then -1 else T p
theorem see_v {I : Nat → Int32} {a : Int32} {n p : Nat} (hn : (I 388).toInt = (n : Int)) (ha : a.toInt = (p : Int)) : g_X12_see_x a I J ri rj rq = (seeN (ri 387) n p, I, J, ri, rj, rq) := by
  rw [g_X12_see_x_e]
  try simp only [↓ap1_n]
  unfold seeN
  by_cases c : I 388 ≤ a
  · rw [if_pos c, if_pos ((le_n hn ha).mp c)]
  · rw [if_neg c, if_neg (fun q => c ((le_n hn ha).mpr q)), at_n ha]
theorem see_in {T : Nat → Int32} {n p : Nat} (h : p < n) : seeN T n p = T p := if_neg (by omega)
theorem see_out {T : Nat → Int32} {n p : Nat} (h : n ≤ p) : seeN T n p = -1 := if_pos h
/-- the NUMBER of the digits from p on, as the reference counts it -/
def nvR (T : Nat → Int32) : Nat → Nat → Int32 → Int32
  | 0, _, v => v
  | k + 1, p, v => nvR T k (p + 1) (if (100000 : Int32) ≤ v then v else 10 * v + T p - 48)
theorem numR_L {n : Nat} (h3 : n ≤ 300) : ∀ (m : Nat) (I : Nat → Int32) (p e : Nat), (I 388).toInt = (n : Int) → (I 391).toInt = (p : Int) → p ≤ n → 300 - p < m → spn dgt (ri 387) n p e → ∃ I', g_X12_nextToken_x_L85 J ri rj rq m I = (I', J, ri, rj, rq) ∧ (I' 391).toInt = (e : Int) ∧ I' 394 = nvR (ri 387) (e - p) p (I 394) ∧ ∀ f, f ≠ 391 → f ≠ 394 → I' f = I f := by
  intro m
  induction m with
  | zero => intro I p e _ _ _ h; exact absurd h (Nat.not_lt_zero _)
  | succ m ih =>
    intro I p e hn hp hpn hm hs
    rw [g_X12_nextToken_x_L85_e]
    try simp only [↓ap1_n]
    rw [bn_n (see_v hn hp)]
    try simp only [↓ap1_n]
    by_cases c : n ≤ p
    · have nd : ¬ dgt (-1 : Int32) := by unfold dgt; decide
      rw [see_out c, mD_0 nd, if_pos (show (0 : Int32) = 0 from rfl)]
      have e1 := spn_z hs (Or.inl c)
      subst e1
      exact ⟨I, rfl, hp, by rw [Nat.sub_self]; rfl, fun _ _ _ => rfl⟩
    · have c1 : p < n := by omega
      rw [see_in c1]
      by_cases d : dgt (ri 387 p)
      · rw [mD_1 d, if_neg (show ¬ (1 : Int32) = 0 by decide)]
        obtain ⟨s1, s2⟩ := spn_s hs c1 d
        have hk : e - p = (e - (p + 1)) + 1 := by omega
        by_cases w : (100000 : Int32) ≤ I 394
        · rw [if_pos w]
          obtain ⟨I', i1, i2, i3, i4⟩ := ih (va_up I 391 (I 391 + 1)) (p + 1) e (by rw [va_up_ne _ _ (show (388 : Nat) ≠ 391 by decide)]; exact hn) (by rw [va_up_self]; exact upN hp (by omega)) (by omega) (by omega) s2
          refine ⟨I', i1, i2, ?_, fun f f1 f2 => (i4 f f1 f2).trans (va_up_ne _ _ f1)⟩
          rw [i3, va_up_ne _ _ (show (394 : Nat) ≠ 391 by decide), hk]
          show _ = nvR (ri 387) (e - (p + 1)) (p + 1) (if (100000 : Int32) ≤ I 394 then I 394 else 10 * I 394 + ri 387 p - 48)
          rw [if_pos w]
        · rw [if_neg w, bn_n (see_v hn hp)]
          try simp only [↓ap1_n]
          rw [see_in c1]
          have w7 : va_up I 394 (10 * I 394 + ri 387 p - 48) 391 = I 391 := va_up_ne _ _ (by decide)
          rw [w7]
          obtain ⟨I', i1, i2, i3, i4⟩ := ih (va_up (va_up I 394 (10 * I 394 + ri 387 p - 48)) 391 (I 391 + 1)) (p + 1) e (by rw [va_up_ne _ _ (show (388 : Nat) ≠ 391 by decide), va_up_ne _ _ (show (388 : Nat) ≠ 394 by decide)]; exact hn) (by rw [va_up_self]; exact upN hp (by omega)) (by omega) (by omega) s2
          refine ⟨I', i1, i2, ?_, fun f f1 f2 => by rw [i4 f f1 f2, va_up_ne _ _ f1, va_up_ne _ _ f2]⟩
          rw [i3, va_up_ne _ _ (show (394 : Nat) ≠ 391 by decide), va_up_self, hk]
          show _ = nvR (ri 387) (e - (p + 1)) (p + 1) (if (100000 : Int32) ≤ I 394 then I 394 else 10 * I 394 + ri 387 p - 48)
          rw [if_neg w]
      · rw [mD_0 d, if_pos (show (0 : Int32) = 0 from rfl)]
        have e1 := spn_z hs (Or.inr d)
        subst e1
        exact ⟨I, rfl, hp, by rw [Nat.sub_self]; rfl, fun _ _ _ => rfl⟩
/-- both count alike as far as 9999 -/
def nvE (v w : Int32) : Prop := (0 ≤ w.toInt ∧ w.toInt ≤ 9999 ∧ v = w) ∨ (10000 ≤ w.toInt ∧ w.toInt ≤ 999999 ∧ v.toInt = 10000)
theorem nv_eq {T : Nat → Int32} : ∀ (k p : Nat) (v w : Int32), (∀ j, p ≤ j → j < p + k → dgt (T j)) → nvE v w → nvE (nvC T k p v) (nvR T k p w)
  | 0, _, _, _, _, h => h
  | k + 1, p, v, w, hT, h => by
    refine nv_eq k (p + 1) _ _ (fun j h1 h2 => hT j (by omega) (by omega)) ?_
    obtain ⟨t0, t1⟩ := hT p (Nat.le_refl _) (by omega)
    have k1 : (10 : Int32).toInt = 10 := by decide
    have k2 : (48 : Int32).toInt = 48 := by decide
    have k3 : (100000 : Int32).toInt = 100000 := by decide
    have k4 : (10000 : Int32).toInt = 10000 := by decide
    rcases h with ⟨w0, w1, e⟩ | ⟨w0, w1, e⟩
    · subst e
      have e1 : (v * 10 + T p - 48).toInt = v.toInt * 10 + (T p).toInt - 48 := i_sub (i_add (i_mul rfl k1 (by omega) (by omega)) rfl (by omega) (by omega)) k2 (by omega) (by omega)
      have e2 : (10 * v + T p - 48).toInt = 10 * v.toInt + (T p).toInt - 48 := i_sub (i_add (i_mul k1 rfl (by omega) (by omega)) rfl (by omega) (by omega)) k2 (by omega) (by omega)
      rw [if_neg (show ¬ (100000 : Int32) ≤ v from fun q => by have q1 := Int32.le_iff_toInt_le.mp q; omega)]
      by_cases c : v * 10 + T p - 48 < 10000
      · have c1 := Int32.lt_iff_toInt_lt.mp c
        rw [if_pos c]
        exact Or.inl ⟨by omega, by omega, Int32.toInt_inj.mp (by omega)⟩
      · have c1 := Int32.le_iff_toInt_le.mp (Int32.not_lt.mp c)
        rw [if_neg c]
        exact Or.inr ⟨by omega, by omega, k4⟩
    · have e1 : (v * 10 + T p - 48).toInt = v.toInt * 10 + (T p).toInt - 48 := i_sub (i_add (i_mul rfl k1 (by omega) (by omega)) rfl (by omega) (by omega)) k2 (by omega) (by omega)
      rw [if_neg (show ¬ v * 10 + T p - 48 < 10000 from fun q => by have q1 := Int32.lt_iff_toInt_lt.mp q; omega)]
      by_cases c : (100000 : Int32) ≤ w
      · have c1 := Int32.le_iff_toInt_le.mp c
        rw [if_pos c]
        exact Or.inr ⟨by omega, by omega, k4⟩
      · have c1 := Int32.lt_iff_toInt_lt.mp (Int32.not_le.mp c)
        have e2 : (10 * w + T p - 48).toInt = 10 * w.toInt + (T p).toInt - 48 := i_sub (i_add (i_mul k1 rfl (by omega) (by omega)) rfl (by omega) (by omega)) k2 (by omega) (by omega)
        rw [if_neg c]
        exact Or.inr ⟨by omega, by omega, k4⟩
/-! words as one number -/
def pkN (T : Nat → Int32) (s : Nat) : Nat → Nat
  | 0 => 0
  | l + 1 => pkN T s l * 256 + (T (s + l)).toNatClampNeg
/-- bytes that are no 0 -/
def byt (T : Nat → Int32) (s l : Nat) : Prop := ∀ j, j < l → 1 ≤ (T (s + j)).toInt ∧ (T (s + j)).toInt ≤ 255
theorem pkN_lt {T : Nat → Int32} {s : Nat} : ∀ (l : Nat), byt T s l → pkN T s l < 256 ^ l
  | 0, _ => by show 0 < 1; decide
  | l + 1, h => by
    have h1 := pkN_lt l (fun j hj => h j (by omega))
    have h2 := h l (by omega)
    have z := clampE (T (s + l))
    have e : 256 ^ (l + 1) = 256 ^ l * 256 := Nat.pow_succ _ _
    show pkN T s l * 256 + (T (s + l)).toNatClampNeg < 256 ^ (l + 1)
    rw [e]
    omega
theorem pkN_pos {T : Nat → Int32} {s l : Nat} (h : byt T s (l + 1)) : 0 < pkN T s (l + 1) := by
  have h2 := h l (by omega)
  have z := clampE (T (s + l))
  show 0 < pkN T s l * 256 + (T (s + l)).toNatClampNeg
  omega
theorem pkN_inj {T U : Nat → Int32} {s o : Nat} : ∀ (l k : Nat), byt T s l → byt U o k → pkN T s l = pkN U o k → l = k ∧ ∀ j, j < l → T (s + j) = U (o + j)
  | 0, 0, _, _, _ => ⟨rfl, fun j hj => absurd hj (Nat.not_lt_zero _)⟩
  | 0, k + 1, _, hU, h => by have h1 := pkN_pos hU; rw [← h] at h1; exact absurd h1 (Nat.lt_irrefl _)
  | l + 1, 0, hT, _, h => by have h1 := pkN_pos hT; rw [h] at h1; exact absurd h1 (Nat.lt_irrefl _)
  | l + 1, k + 1, hT, hU, h => by
    have h' : pkN T s l * 256 + (T (s + l)).toNatClampNeg = pkN U o k * 256 + (U (o + k)).toNatClampNeg := h
    have a := hT l (by omega)
    have b := hU k (by omega)
    have za := clampE (T (s + l))
    have zb := clampE (U (o + k))
    obtain ⟨e, f⟩ := pkN_inj l k (fun j hj => hT j (by omega)) (fun j hj => hU j (by omega)) (by omega)
    subst e
    refine ⟨rfl, fun j hj => ?_⟩
    by_cases q : j = l
    · subst q
      exact Int32.toInt_inj.mp (by omega)
    · exact f j (by omega)
theorem pkN_cg {T U : Nat → Int32} {s o : Nat} : ∀ (l : Nat), (∀ j, j < l → T (s + j) = U (o + j)) → pkN T s l = pkN U o l
  | 0, _ => rfl
  | l + 1, h => by
    show pkN T s l * 256 + (T (s + l)).toNatClampNeg = pkN U o l * 256 + (U (o + l)).toNatClampNeg
    rw [pkN_cg l (fun j hj => h j (by omega)), h l (by omega)]
theorem ltr_byt {T : Nat → Int32} {n s e : Nat} (h : spn ltr T n s e) (l : Nat) (hl : s + l ≤ e) : byt T s l := fun j hj => by
  have := h.2.2.1 (s + j) (by omega) (by omega)
  unfold ltr at this
  omega
theorem pk_step {T : Nat → Int32} {s l : Nat} (hl : l < 7) (h : byt T s (l + 1)) : (lN (pkN T s l) <<< ((8 : Int32).toInt64 &&& 63)) ||| (T (s + l)).toInt64 = lN (pkN T s (l + 1)) := by
  have h2 := h l (by omega)
  have z := clampE (T (s + l))
  have hp := pkN_lt l (fun j hj => h j (by omega) : byt T s l)
  have hp2 : 256 ^ l ≤ 256 ^ 6 := Nat.pow_le_pow_right (by decide) (by omega)
  have hp3 : 256 ^ 6 = 281474976710656 := by decide
  have e1 : lN (pkN T s l) <<< ((8 : Int32).toInt64 &&& 63) = lN (pkN T s l * 2 ^ 8) := wb_shl (pkN T s l) (k := 8) (by decide)
  have e2 : (T (s + l)).toInt64 = lN (T (s + l)).toNatClampNeg := by
    have e3 : T (s + l) = nI (T (s + l)).toNatClampNeg := toN (by omega)
    have e4 := nI_l (n := (T (s + l)).toNatClampNeg) (by omega)
    rw [← e3] at e4
    exact e4
  rw [e1, e2]
  exact g_or (k := 8) (p := 2 ^ 8) rfl (by omega) (by omega)
theorem cmpN (x y : Int64) : lg_cmp x y = 0 ↔ x = y := by
  unfold lg_cmp
  by_cases a : x > y
  · rw [if_pos a]
    exact ⟨fun h => absurd h (by decide), fun h => by rw [h] at a; exact absurd (Int64.lt_iff_toInt_lt.mp a) (Int.lt_irrefl _)⟩
  · by_cases b : x = y
    · rw [if_neg a, if_pos b]; exact ⟨fun _ => b, fun _ => rfl⟩
    · rw [if_neg a, if_neg b]; exact ⟨fun h => absurd h (by decide), fun h => absurd h b⟩
/-- the word of the reference from s to e -/
def wdN (T : Nat → Int32) (s e : Nat) : Nat := if e - s ≤ 7 then pkN T s (e - s) else 0
theorem wordR_L {n : Nat} (h3 : n ≤ 300) : ∀ (m : Nat) (I : Nat → Int32) (J : Nat → Int64) (p s e : Nat), (I 388).toInt = (n : Int) → (I 391).toInt = (p : Int) → (I 392).toInt = (s : Int) → s ≤ p → p ≤ n → 300 - p < m → spn ltr (ri 387) n s e → p ≤ e → J 395 = lN (pkN (ri 387) s (if p - s ≤ 7 then p - s else 7)) → ∃ I' J', g_X12_nextToken_x_L161 ri rj rq m I J = (I', J', ri, rj, rq) ∧ (I' 391).toInt = (e : Int) ∧ J' 395 = lN (wdN (ri 387) s e) ∧ (∀ f, f ≠ 391 → I' f = I f) ∧ ∀ f, f ≠ 395 → J' f = J f := by
  intro m
  induction m with
  | zero => intro I J p s e _ _ _ _ _ h; exact absurd h (Nat.not_lt_zero _)
  | succ m ih =>
    intro I J p s e hn hp hsI hsp hpn hm hs hpe hJ
    have k7 : (7 : Int32).toInt = ((7 : Nat) : Int) := by decide
    have sb : (I 391 - I 392).toInt = ((p - s : Nat) : Int) := by
      have := i_sub (x := I 391) (y := I 392) rfl rfl (by omega) (by omega)
      omega
    rw [g_X12_nextToken_x_L161_e]
    try simp only [↓ap1_n]
    rw [bn_n (see_v hn hp)]
    try simp only [↓ap1_n]
    by_cases c : p = e
    · have nl : ¬ ltr (seeN (ri 387) n p) := by
        by_cases d : n ≤ p
        · rw [see_out d]; unfold ltr; decide
        · rw [see_in (by omega), c]
          exact hs.2.2.2 (by omega)
      rw [mL_0 nl, if_pos (show (0 : Int32) = 0 from rfl)]
      unfold wdN
      by_cases w : I 391 - I 392 ≤ 7
      · have w1 := (le_n sb k7).mp w
        rw [if_pos w]
        rw [if_pos w1] at hJ
        refine ⟨I, J, rfl, by rw [← c]; exact hp, ?_, fun _ _ => rfl, fun _ _ => rfl⟩
        rw [← c, if_pos w1]
        exact hJ
      · have w1 : ¬ p - s ≤ 7 := fun q => w ((le_n sb k7).mpr q)
        rw [if_neg w]
        refine ⟨I, va_up J 395 0, rfl, by rw [← c]; exact hp, ?_, fun _ _ => rfl, fun f hf => va_up_ne _ _ hf⟩
        rw [← c, if_neg w1, va_up_self]
        rfl
    · have c1 : p < e := by omega
      have c2 : p < n := by have := hs.2.1; omega
      have hl : ltr (ri 387 p) := hs.2.2.1 p hsp c1
      rw [see_in c2, mL_1 hl, if_neg (show ¬ (1 : Int32) = 0 by decide)]
      by_cases w : (7 : Int32) ≤ I 391 - I 392
      · have w1 := (le_n k7 sb).mp w
        rw [if_pos w]
        obtain ⟨I', J', i1, i2, i3, i4, i5⟩ := ih (va_up I 391 (I 391 + 1)) J (p + 1) s e (by rw [va_up_ne _ _ (show (388 : Nat) ≠ 391 by decide)]; exact hn) (by rw [va_up_self]; exact upN hp (by omega)) (by rw [va_up_ne _ _ (show (392 : Nat) ≠ 391 by decide)]; exact hsI) (by omega) (by omega) (by omega) hs (by omega) (by
          rw [if_neg (show ¬ p + 1 - s ≤ 7 by omega), hJ]
          by_cases q : p - s ≤ 7
          · rw [if_pos q, show p - s = 7 by omega]
          · rw [if_neg q])
        exact ⟨I', J', i1, i2, i3, fun f hf => (i4 f hf).trans (va_up_ne _ _ hf), i5⟩
      · have w1 : ¬ 7 ≤ p - s := fun q => w ((le_n k7 sb).mpr q)
        rw [if_neg w, bn_n (see_v hn hp)]
        try simp only [↓ap1_n]
        rw [see_in c2]
        rw [if_pos (show p - s ≤ 7 by omega)] at hJ
        obtain ⟨I', J', i1, i2, i3, i4, i5⟩ := ih (va_up I 391 (I 391 + 1)) (va_up J 395 (J 395 <<< ((8 : Int32).toInt64 &&& 63) ||| (ri 387 p).toInt64)) (p + 1) s e (by rw [va_up_ne _ _ (show (388 : Nat) ≠ 391 by decide)]; exact hn) (by rw [va_up_self]; exact upN hp (by omega)) (by rw [va_up_ne _ _ (show (392 : Nat) ≠ 391 by decide)]; exact hsI) (by omega) (by omega) (by omega) hs (by omega) (by
          have ps := pk_step (T := ri 387) (s := s) (l := p - s) (by omega) (ltr_byt hs _ (by omega))
          rw [show s + (p - s) = p by omega] at ps
          rw [va_up_self, hJ, if_pos (show p + 1 - s ≤ 7 by omega), show p + 1 - s = p - s + 1 by omega]
          exact ps)
        exact ⟨I', J', i1, i2, i3, fun f hf => (i4 f hf).trans (va_up_ne _ _ hf), fun f hf => (i5 f hf).trans (va_up_ne _ _ hf)⟩
end PR1
/-! ===== pure: what a TOKEN of the reference says of the class's ===== -/
section PR2
variable {J : Nat → Int64} {ri : Nat → Nat → Int32} {rj : Nat → Nat → Int64} {rq : Nat → Nat → Option Nat}
/-- the words, each as one number -/
def wtL (w : Nat) : List Nat → Int32 → Int32
  | [], _ => 34
  | a :: L, k => if w = a then k else wtL w L (k + Int32.ofInt 1)
theorem wtk_L {T : Nat → Int32} {n s e : Nat} (h : spn ltr T n s e) : ∀ (L : List (Nat × Nat)) (k : Int32), (∀ a, a ∈ L → a.2 ≤ 7 ∧ 1 ≤ a.2 ∧ byt txW a.1 a.2) → wtk T s e L k = wtL (wdN T s e) (L.map (fun a => pkN txW a.1 a.2)) k
  | [], _, _ => rfl
  | a :: L, k, hL => by
    have ha := hL a (List.mem_cons_self ..)
    have ih := wtk_L h L (k + Int32.ofInt 1) (fun b hb => hL b (List.mem_cons_of_mem _ hb))
    have iff : isW T s e a.1 a.2 ↔ wdN T s e = pkN txW a.1 a.2 := by
      unfold isW wdN
      have hse := h.1
      constructor
      · intro ⟨h1, h2⟩
        rw [if_pos (show e - s ≤ 7 by omega), show e - s = a.2 by omega]
        exact pkN_cg a.2 ((mt_at _ _ _).mp h2)
      · intro h1
        by_cases q : e - s ≤ 7
        · rw [if_pos q] at h1
          obtain ⟨i1, i2⟩ := pkN_inj (e - s) a.2 (ltr_byt h (e - s) (by omega)) ha.2.2 h1
          exact ⟨by omega, (mt_at _ _ _).mpr (fun j hj => i2 j (by omega))⟩
        · rw [if_neg q] at h1
          obtain ⟨l, hl⟩ : ∃ l, a.2 = l + 1 := ⟨a.2 - 1, by omega⟩
          rw [hl] at h1
          have hb := ha.2.2
          rw [hl] at hb
          have := pkN_pos hb
          omega
    show @ite _ (isW T s e a.1 a.2) (Classical.propDecidable _) k (wtk T s e L (k + Int32.ofInt 1)) = if wdN T s e = pkN txW a.1 a.2 then k else wtL (wdN T s e) (L.map (fun a => pkN txW a.1 a.2)) (k + Int32.ofInt 1)
    by_cases q : isW T s e a.1 a.2
    · rw [if_pos q, if_pos (iff.mp q)]
    · rw [if_neg q, if_neg (fun y => q (iff.mpr y)), ih]
theorem byt_W : ∀ a, a ∈ WL → a.2 ≤ 7 ∧ 1 ≤ a.2 ∧ byt txW a.1 a.2 := by
  unfold byt WL
  decide +kernel
def NW : List Nat := [465491424371, 123580963646565, 7168377, 1987015781, 478660552050, 1751476594, 27988572848220524, 6711672, 465557354085, 28530, 6385252, 7237492, 6383461, 7039342, 427120748148, 482854658917, 470020945000, 504363246962]
theorem NW_e : WL.map (fun a => pkN txW a.1 a.2) = NW := by decide +kernel
theorem wtk_N {T : Nat → Int32} {n s e : Nat} (h : spn ltr T n s e) : wtk T s e WL 0 = wtL (wdN T s e) NW 0 := by rw [wtk_L h WL 0 byt_W, NW_e]
/-- which word it is -/
def WDF (w : Nat) (c : Int32) : Prop := ((0 ≤ c.toInt ∧ c.toInt ≤ 17) ∨ c = 34) ∧ (w = 465491424371 ↔ c = 0) ∧ (w = 123580963646565 ↔ c = 1) ∧ (w = 7168377 ↔ c = 2) ∧ (w = 1987015781 ↔ c = 3) ∧ (w = 478660552050 ↔ c = 4) ∧ (w = 1751476594 ↔ c = 5) ∧ (w = 27988572848220524 ↔ c = 6) ∧ (w = 6711672 ↔ c = 7) ∧ (w = 465557354085 ↔ c = 8) ∧ (w = 28530 ↔ c = 9) ∧ (w = 6385252 ↔ c = 10) ∧ (w = 7237492 ↔ c = 11) ∧ (w = 6383461 ↔ c = 12) ∧ (w = 7039342 ↔ c = 13) ∧ (w = 427120748148 ↔ c = 14) ∧ (w = 482854658917 ↔ c = 15) ∧ (w = 470020945000 ↔ c = 16) ∧ (w = 504363246962 ↔ c = 17)
theorem wtL_n {w a : Nat} {L : List Nat} {k : Int32} (h : ¬ w = a) : wtL w (a :: L) k = wtL w L (k + Int32.ofInt 1) := if_neg h
theorem wdf {w : Nat} : WDF w (wtL w NW 0) := by
  unfold NW
  by_cases q0 : w = 465491424371
  · subst q0; unfold WDF; decide +kernel
  by_cases q1 : w = 123580963646565
  · subst q1; unfold WDF; decide +kernel
  by_cases q2 : w = 7168377
  · subst q2; unfold WDF; decide +kernel
  by_cases q3 : w = 1987015781
  · subst q3; unfold WDF; decide +kernel
  by_cases q4 : w = 478660552050
  · subst q4; unfold WDF; decide +kernel
  by_cases q5 : w = 1751476594
  · subst q5; unfold WDF; decide +kernel
  by_cases q6 : w = 27988572848220524
  · subst q6; unfold WDF; decide +kernel
  by_cases q7 : w = 6711672
  · subst q7; unfold WDF; decide +kernel
  by_cases q8 : w = 465557354085
  · subst q8; unfold WDF; decide +kernel
  by_cases q9 : w = 28530
  · subst q9; unfold WDF; decide +kernel
  by_cases q10 : w = 6385252
  · subst q10; unfold WDF; decide +kernel
  by_cases q11 : w = 7237492
  · subst q11; unfold WDF; decide +kernel
  by_cases q12 : w = 6383461
  · subst q12; unfold WDF; decide +kernel
  by_cases q13 : w = 7039342
  · subst q13; unfold WDF; decide +kernel
  by_cases q14 : w = 427120748148
  · subst q14; unfold WDF; decide +kernel
  by_cases q15 : w = 482854658917
  · subst q15; unfold WDF; decide +kernel
  by_cases q16 : w = 470020945000
  · subst q16; unfold WDF; decide +kernel
  by_cases q17 : w = 504363246962
  · subst q17; unfold WDF; decide +kernel
  have e : wtL w [465491424371, 123580963646565, 7168377, 1987015781, 478660552050, 1751476594, 27988572848220524, 6711672, 465557354085, 28530, 6385252, 7237492, 6383461, 7039342, 427120748148, 482854658917, 470020945000, 504363246962] 0 = 34 := (wtL_n q0).trans ((wtL_n q1).trans ((wtL_n q2).trans ((wtL_n q3).trans ((wtL_n q4).trans ((wtL_n q5).trans ((wtL_n q6).trans ((wtL_n q7).trans ((wtL_n q8).trans ((wtL_n q9).trans ((wtL_n q10).trans ((wtL_n q11).trans ((wtL_n q12).trans ((wtL_n q13).trans ((wtL_n q14).trans ((wtL_n q15).trans ((wtL_n q16).trans ((wtL_n q17).trans (rfl))))))))))))))))))
  rw [e]
  unfold WDF
  refine ⟨Or.inr rfl, ⟨fun y => absurd y q0, fun y => absurd y (by decide)⟩, ⟨fun y => absurd y q1, fun y => absurd y (by decide)⟩, ⟨fun y => absurd y q2, fun y => absurd y (by decide)⟩, ⟨fun y => absurd y q3, fun y => absurd y (by decide)⟩, ⟨fun y => absurd y q4, fun y => absurd y (by decide)⟩, ⟨fun y => absurd y q5, fun y => absurd y (by decide)⟩, ⟨fun y => absurd y q6, fun y => absurd y (by decide)⟩, ⟨fun y => absurd y q7, fun y => absurd y (by decide)⟩, ⟨fun y => absurd y q8, fun y => absurd y (by decide)⟩, ⟨fun y => absurd y q9, fun y => absurd y (by decide)⟩, ⟨fun y => absurd y q10, fun y => absurd y (by decide)⟩, ⟨fun y => absurd y q11, fun y => absurd y (by decide)⟩, ⟨fun y => absurd y q12, fun y => absurd y (by decide)⟩, ⟨fun y => absurd y q13, fun y => absurd y (by decide)⟩, ⟨fun y => absurd y q14, fun y => absurd y (by decide)⟩, ⟨fun y => absurd y q15, fun y => absurd y (by decide)⟩, ⟨fun y => absurd y q16, fun y => absurd y (by decide)⟩, ⟨fun y => absurd y q17, fun y => absurd y (by decide)⟩⟩
/-- what the reference's fields say of the class's TOKEN c (v: its value) -/
def TKF (I : Nat → Int32) (J : Nat → Int64) (c v : Int32) : Prop := (0 ≤ c.toInt ∧ c.toInt ≤ 34) ∧ (I 393 = 1 ↔ c = 18) ∧ (I 393 = 0 ↔ c = 33) ∧ (I 393 = 60 ↔ c = 19) ∧ (I 393 = 4 ↔ c = 20) ∧ (I 393 = 62 ↔ c = 21) ∧ (I 393 = 5 ↔ c = 22) ∧ (I 393 = 61 ↔ c = 23) ∧ (I 393 = 35 ↔ c = 24) ∧ (I 393 = 43 ↔ c = 25) ∧ (I 393 = 45 ↔ c = 26) ∧ (I 393 = 42 ↔ c = 27) ∧ (I 393 = 47 ↔ c = 28) ∧ (I 393 = 40 ↔ c = 29) ∧ (I 393 = 41 ↔ c = 30) ∧ (I 393 = 44 ↔ c = 31) ∧ (I 393 = 59 ↔ c = 32) ∧ (I 393 = 2 ↔ ((0 ≤ c.toInt ∧ c.toInt ≤ 17) ∨ (c = 34 ∧ I 393 ≠ 3))) ∧ (c = 18 → nvE v (I 394)) ∧ (I 393 = 2 → (J 395 = lN 465491424371 ↔ c = 0) ∧ (J 395 = lN 123580963646565 ↔ c = 1) ∧ (J 395 = lN 7168377 ↔ c = 2) ∧ (J 395 = lN 1987015781 ↔ c = 3) ∧ (J 395 = lN 478660552050 ↔ c = 4) ∧ (J 395 = lN 1751476594 ↔ c = 5) ∧ (J 395 = lN 27988572848220524 ↔ c = 6) ∧ (J 395 = lN 6711672 ↔ c = 7) ∧ (J 395 = lN 465557354085 ↔ c = 8) ∧ (J 395 = lN 28530 ↔ c = 9) ∧ (J 395 = lN 6385252 ↔ c = 10) ∧ (J 395 = lN 7237492 ↔ c = 11) ∧ (J 395 = lN 6383461 ↔ c = 12) ∧ (J 395 = lN 7039342 ↔ c = 13) ∧ (J 395 = lN 427120748148 ↔ c = 14) ∧ (J 395 = lN 482854658917 ↔ c = 15) ∧ (J 395 = lN 470020945000 ↔ c = 16) ∧ (J 395 = lN 504363246962 ↔ c = 17))
theorem tkf_lit {I : Nat → Int32} {J : Nat → Int64} {c v t : Int32} (ht : I 393 = t) (h : (t, c) ∈ [((0 : Int32), (33 : Int32)), (3, 34), (60, 19), (4, 20), (62, 21), (5, 22), (61, 23), (35, 24), (43, 25), (45, 26), (42, 27), (47, 28), (40, 29), (41, 30), (44, 31), (59, 32)]) : TKF I J c v := by
  unfold TKF
  rw [ht]
  simp only [List.mem_cons, Prod.mk.injEq, List.not_mem_nil, or_false] at h
  rcases h with ⟨rfl, rfl⟩ | ⟨rfl, rfl⟩ | ⟨rfl, rfl⟩ | ⟨rfl, rfl⟩ | ⟨rfl, rfl⟩ | ⟨rfl, rfl⟩ | ⟨rfl, rfl⟩ | ⟨rfl, rfl⟩ | ⟨rfl, rfl⟩ | ⟨rfl, rfl⟩ | ⟨rfl, rfl⟩ | ⟨rfl, rfl⟩ | ⟨rfl, rfl⟩ | ⟨rfl, rfl⟩ | ⟨rfl, rfl⟩ | ⟨rfl, rfl⟩ <;> (refine ⟨by decide, by decide, by decide, by decide, by decide, by decide, by decide, by decide, by decide, by decide, by decide, by decide, by decide, by decide, by decide, by decide, by decide, by decide, fun q => absurd q (by decide), fun q => absurd q (by decide)⟩)
theorem tkf_num {I : Nat → Int32} {J : Nat → Int64} {v : Int32} (ht : I 393 = 1) (h : nvE v (I 394)) : TKF I J 18 v := by
  unfold TKF
  rw [ht]
  exact ⟨by decide, by decide, by decide, by decide, by decide, by decide, by decide, by decide, by decide, by decide, by decide, by decide, by decide, by decide, by decide, by decide, by decide, by decide, fun _ => h, fun q => absurd q (by decide)⟩
theorem tkf_wd {I : Nat → Int32} {J : Nat → Int64} {v : Int32} {w : Nat} (ht : I 393 = 2) (hJ : J 395 = lN w) (hw : w < 2 ^ 63) : TKF I J (wtL w NW 0) v := by
  have d := wdf (w := w)
  generalize wtL w NW 0 = c at d ⊢
  obtain ⟨d0, d1, d2, d3, d4, d5, d6, d7, d8, d9, d10, d11, d12, d13, d14, d15, d16, d17, d18⟩ := d
  have ne : ∀ k : Int32, 18 ≤ k.toInt → k.toInt ≠ 34 → c ≠ k := fun k h1 h2 q => by
    rw [← q] at h1 h2
    rcases d0 with y | y
    · omega
    · rw [y] at h2; exact h2 (by decide)
  have j : ∀ a : Nat, a < 2 ^ 63 → (J 395 = lN a ↔ w = a) := fun a ha => by rw [hJ]; exact fb_lN_inj hw ha
  unfold TKF
  rw [ht]
  refine ⟨?_, ⟨fun q => absurd q (by decide), fun q => absurd q (ne 18 (by decide) (by decide))⟩, ⟨fun q => absurd q (by decide), fun q => absurd q (ne 33 (by decide) (by decide))⟩, ⟨fun q => absurd q (by decide), fun q => absurd q (ne 19 (by decide) (by decide))⟩, ⟨fun q => absurd q (by decide), fun q => absurd q (ne 20 (by decide) (by decide))⟩, ⟨fun q => absurd q (by decide), fun q => absurd q (ne 21 (by decide) (by decide))⟩, ⟨fun q => absurd q (by decide), fun q => absurd q (ne 22 (by decide) (by decide))⟩, ⟨fun q => absurd q (by decide), fun q => absurd q (ne 23 (by decide) (by decide))⟩, ⟨fun q => absurd q (by decide), fun q => absurd q (ne 24 (by decide) (by decide))⟩, ⟨fun q => absurd q (by decide), fun q => absurd q (ne 25 (by decide) (by decide))⟩, ⟨fun q => absurd q (by decide), fun q => absurd q (ne 26 (by decide) (by decide))⟩, ⟨fun q => absurd q (by decide), fun q => absurd q (ne 27 (by decide) (by decide))⟩, ⟨fun q => absurd q (by decide), fun q => absurd q (ne 28 (by decide) (by decide))⟩, ⟨fun q => absurd q (by decide), fun q => absurd q (ne 29 (by decide) (by decide))⟩, ⟨fun q => absurd q (by decide), fun q => absurd q (ne 30 (by decide) (by decide))⟩, ⟨fun q => absurd q (by decide), fun q => absurd q (ne 31 (by decide) (by decide))⟩, ⟨fun q => absurd q (by decide), fun q => absurd q (ne 32 (by decide) (by decide))⟩, ⟨fun _ => ?_, fun _ => rfl⟩, fun q => absurd q (ne 18 (by decide) (by decide)), fun _ => ⟨(j 465491424371 (by decide)).trans d1, (j 123580963646565 (by decide)).trans d2, (j 7168377 (by decide)).trans d3, (j 1987015781 (by decide)).trans d4, (j 478660552050 (by decide)).trans d5, (j 1751476594 (by decide)).trans d6, (j 27988572848220524 (by decide)).trans d7, (j 6711672 (by decide)).trans d8, (j 465557354085 (by decide)).trans d9, (j 28530 (by decide)).trans d10, (j 6385252 (by decide)).trans d11, (j 7237492 (by decide)).trans d12, (j 6383461 (by decide)).trans d13, (j 7039342 (by decide)).trans d14, (j 427120748148 (by decide)).trans d15, (j 482854658917 (by decide)).trans d16, (j 470020945000 (by decide)).trans d17, (j 504363246962 (by decide)).trans d18⟩⟩
  · rcases d0 with y | y
    · omega
    · rw [y]; decide
  · rcases d0 with y | y
    · exact Or.inl y
    · exact Or.inr ⟨y, by decide⟩
/-! signs -/
theorem ite_e {c : Prop} [Decidable c] {a b v : Int32} (ha : a = v) (hb : b = v) : (if c then a else b) = v := by
  by_cases h : c
  · rw [if_pos h]; exact ha
  · rw [if_neg h]; exact hb
theorem sgO_34 {x : Int32} (h : x ≠ 60 ∧ x ≠ 62 ∧ x ≠ 61 ∧ x ≠ 35 ∧ x ≠ 43 ∧ x ≠ 45 ∧ x ≠ 42 ∧ x ≠ 47 ∧ x ≠ 40 ∧ x ≠ 41 ∧ x ≠ 44 ∧ x ≠ 59) : g_X6_signOf x = 34 := by
  obtain ⟨h60, h62, h61, h35, h43, h45, h42, h47, h40, h41, h44, h59⟩ := h
  rw [g_X6_signOf_e]
  exact (if_neg h35).trans (ite_e rfl (ite_e rfl (ite_e rfl (ite_e rfl ((if_neg h40).trans ((if_neg h41).trans ((if_neg h42).trans ((if_neg h43).trans ((if_neg h44).trans ((if_neg h45).trans (ite_e rfl ((if_neg h47).trans (ite_e rfl (ite_e rfl (ite_e rfl (ite_e rfl (ite_e rfl (ite_e rfl (ite_e rfl (ite_e rfl (ite_e rfl (ite_e rfl (ite_e rfl ((if_neg h59).trans ((if_neg h60).trans ((if_neg h61).trans ((if_neg h62).trans (rfl))))))))))))))))))))))))))))
/-- the sign as the reference has it -/
def sgR (T : Nat → Int32) (n s : Nat) : Int32 := if T s = 60 then (if s + 1 < n ∧ T (s + 1) = 61 then 4 else 60) else if T s = 62 then (if s + 1 < n ∧ T (s + 1) = 61 then 5 else 62) else if T s = 61 then 61 else if T s = 35 then 35 else if T s = 43 then 43 else if T s = 45 then 45 else if T s = 42 then 42 else if T s = 47 then 47 else if T s = 40 then 40 else if T s = 41 then 41 else if T s = 44 then 44 else if T s = 59 then 59 else 3
theorem sg_pair {T : Nat → Int32} {n s : Nat} : (sgR T n s, sgT T n s) ∈ [((0 : Int32), (33 : Int32)), (3, 34), (60, 19), (4, 20), (62, 21), (5, 22), (61, 23), (35, 24), (43, 25), (45, 26), (42, 27), (47, 28), (40, 29), (41, 30), (44, 31), (59, 32)] := by
  unfold sgR sgT
  by_cases q60 : T s = 60
  · rw [q60, if_pos (show (60 : Int32) = 60 from rfl), show g_X6_signOf 60 = 19 from by decide]
    by_cases w : s + 1 < n ∧ T (s + 1) = 61
    · rw [if_pos w, if_pos w]; decide
    · rw [if_neg w, if_neg w]; decide
  by_cases q62 : T s = 62
  · rw [q62, if_neg (show ¬ (62 : Int32) = 60 by decide), if_pos (show (62 : Int32) = 62 from rfl), show g_X6_signOf 62 = 21 from by decide]
    by_cases w : s + 1 < n ∧ T (s + 1) = 61
    · rw [if_pos w, if_pos w]; decide
    · rw [if_neg w, if_neg w]; decide
  by_cases q61 : T s = 61
  · rw [q61, if_neg (show ¬ (61 : Int32) = 60 by decide), if_neg (show ¬ (61 : Int32) = 62 by decide), if_pos (show (61 : Int32) = 61 from rfl), show g_X6_signOf 61 = 23 from by decide]
    by_cases w : s + 1 < n ∧ T (s + 1) = 61
    · rw [if_pos w]; decide
    · rw [if_neg w]; decide
  by_cases q35 : T s = 35
  · rw [q35, if_neg (show ¬ (35 : Int32) = 60 by decide), if_neg (show ¬ (35 : Int32) = 62 by decide), if_neg (show ¬ (35 : Int32) = 61 by decide), if_pos (show (35 : Int32) = 35 from rfl), show g_X6_signOf 35 = 24 from by decide]
    by_cases w : s + 1 < n ∧ T (s + 1) = 61
    · rw [if_pos w]; decide
    · rw [if_neg w]; decide
  by_cases q43 : T s = 43
  · rw [q43, if_neg (show ¬ (43 : Int32) = 60 by decide), if_neg (show ¬ (43 : Int32) = 62 by decide), if_neg (show ¬ (43 : Int32) = 61 by decide), if_neg (show ¬ (43 : Int32) = 35 by decide), if_pos (show (43 : Int32) = 43 from rfl), show g_X6_signOf 43 = 25 from by decide]
    by_cases w : s + 1 < n ∧ T (s + 1) = 61
    · rw [if_pos w]; decide
    · rw [if_neg w]; decide
  by_cases q45 : T s = 45
  · rw [q45, if_neg (show ¬ (45 : Int32) = 60 by decide), if_neg (show ¬ (45 : Int32) = 62 by decide), if_neg (show ¬ (45 : Int32) = 61 by decide), if_neg (show ¬ (45 : Int32) = 35 by decide), if_neg (show ¬ (45 : Int32) = 43 by decide), if_pos (show (45 : Int32) = 45 from rfl), show g_X6_signOf 45 = 26 from by decide]
    by_cases w : s + 1 < n ∧ T (s + 1) = 61
    · rw [if_pos w]; decide
    · rw [if_neg w]; decide
  by_cases q42 : T s = 42
  · rw [q42, if_neg (show ¬ (42 : Int32) = 60 by decide), if_neg (show ¬ (42 : Int32) = 62 by decide), if_neg (show ¬ (42 : Int32) = 61 by decide), if_neg (show ¬ (42 : Int32) = 35 by decide), if_neg (show ¬ (42 : Int32) = 43 by decide), if_neg (show ¬ (42 : Int32) = 45 by decide), if_pos (show (42 : Int32) = 42 from rfl), show g_X6_signOf 42 = 27 from by decide]
    by_cases w : s + 1 < n ∧ T (s + 1) = 61
    · rw [if_pos w]; decide
    · rw [if_neg w]; decide
  by_cases q47 : T s = 47
  · rw [q47, if_neg (show ¬ (47 : Int32) = 60 by decide), if_neg (show ¬ (47 : Int32) = 62 by decide), if_neg (show ¬ (47 : Int32) = 61 by decide), if_neg (show ¬ (47 : Int32) = 35 by decide), if_neg (show ¬ (47 : Int32) = 43 by decide), if_neg (show ¬ (47 : Int32) = 45 by decide), if_neg (show ¬ (47 : Int32) = 42 by decide), if_pos (show (47 : Int32) = 47 from rfl), show g_X6_signOf 47 = 28 from by decide]
    by_cases w : s + 1 < n ∧ T (s + 1) = 61
    · rw [if_pos w]; decide
    · rw [if_neg w]; decide
  by_cases q40 : T s = 40
  · rw [q40, if_neg (show ¬ (40 : Int32) = 60 by decide), if_neg (show ¬ (40 : Int32) = 62 by decide), if_neg (show ¬ (40 : Int32) = 61 by decide), if_neg (show ¬ (40 : Int32) = 35 by decide), if_neg (show ¬ (40 : Int32) = 43 by decide), if_neg (show ¬ (40 : Int32) = 45 by decide), if_neg (show ¬ (40 : Int32) = 42 by decide), if_neg (show ¬ (40 : Int32) = 47 by decide), if_pos (show (40 : Int32) = 40 from rfl), show g_X6_signOf 40 = 29 from by decide]
    by_cases w : s + 1 < n ∧ T (s + 1) = 61
    · rw [if_pos w]; decide
    · rw [if_neg w]; decide
  by_cases q41 : T s = 41
  · rw [q41, if_neg (show ¬ (41 : Int32) = 60 by decide), if_neg (show ¬ (41 : Int32) = 62 by decide), if_neg (show ¬ (41 : Int32) = 61 by decide), if_neg (show ¬ (41 : Int32) = 35 by decide), if_neg (show ¬ (41 : Int32) = 43 by decide), if_neg (show ¬ (41 : Int32) = 45 by decide), if_neg (show ¬ (41 : Int32) = 42 by decide), if_neg (show ¬ (41 : Int32) = 47 by decide), if_neg (show ¬ (41 : Int32) = 40 by decide), if_pos (show (41 : Int32) = 41 from rfl), show g_X6_signOf 41 = 30 from by decide]
    by_cases w : s + 1 < n ∧ T (s + 1) = 61
    · rw [if_pos w]; decide
    · rw [if_neg w]; decide
  by_cases q44 : T s = 44
  · rw [q44, if_neg (show ¬ (44 : Int32) = 60 by decide), if_neg (show ¬ (44 : Int32) = 62 by decide), if_neg (show ¬ (44 : Int32) = 61 by decide), if_neg (show ¬ (44 : Int32) = 35 by decide), if_neg (show ¬ (44 : Int32) = 43 by decide), if_neg (show ¬ (44 : Int32) = 45 by decide), if_neg (show ¬ (44 : Int32) = 42 by decide), if_neg (show ¬ (44 : Int32) = 47 by decide), if_neg (show ¬ (44 : Int32) = 40 by decide), if_neg (show ¬ (44 : Int32) = 41 by decide), if_pos (show (44 : Int32) = 44 from rfl), show g_X6_signOf 44 = 31 from by decide]
    by_cases w : s + 1 < n ∧ T (s + 1) = 61
    · rw [if_pos w]; decide
    · rw [if_neg w]; decide
  by_cases q59 : T s = 59
  · rw [q59, if_neg (show ¬ (59 : Int32) = 60 by decide), if_neg (show ¬ (59 : Int32) = 62 by decide), if_neg (show ¬ (59 : Int32) = 61 by decide), if_neg (show ¬ (59 : Int32) = 35 by decide), if_neg (show ¬ (59 : Int32) = 43 by decide), if_neg (show ¬ (59 : Int32) = 45 by decide), if_neg (show ¬ (59 : Int32) = 42 by decide), if_neg (show ¬ (59 : Int32) = 47 by decide), if_neg (show ¬ (59 : Int32) = 40 by decide), if_neg (show ¬ (59 : Int32) = 41 by decide), if_neg (show ¬ (59 : Int32) = 44 by decide), if_pos (show (59 : Int32) = 59 from rfl), show g_X6_signOf 59 = 32 from by decide]
    by_cases w : s + 1 < n ∧ T (s + 1) = 61
    · rw [if_pos w]; decide
    · rw [if_neg w]; decide
  rw [if_neg q60, if_neg q62, if_neg q61, if_neg q35, if_neg q43, if_neg q45, if_neg q42, if_neg q47, if_neg q40, if_neg q41, if_neg q44, if_neg q59, sgO_34 ⟨q60, q62, q61, q35, q43, q45, q42, q47, q40, q41, q44, q59⟩]
  by_cases w : s + 1 < n ∧ T (s + 1) = 61
  · rw [if_pos w]; decide
  · rw [if_neg w]; decide
theorem sg_not {x : Int32} {v b : Int32} (hv : v ≠ 34) (hb : ∀ y, y ∈ [(60 : Int32), 62, 61, 35, 43, 45, 42, 47, 40, 41, 44, 59] → g_X6_signOf y = v → y = b) (h : g_X6_signOf x = v) : x = b := by
  by_cases q60 : x = 60
  · exact hb x (by rw [q60]; decide) h
  by_cases q62 : x = 62
  · exact hb x (by rw [q62]; decide) h
  by_cases q61 : x = 61
  · exact hb x (by rw [q61]; decide) h
  by_cases q35 : x = 35
  · exact hb x (by rw [q35]; decide) h
  by_cases q43 : x = 43
  · exact hb x (by rw [q43]; decide) h
  by_cases q45 : x = 45
  · exact hb x (by rw [q45]; decide) h
  by_cases q42 : x = 42
  · exact hb x (by rw [q42]; decide) h
  by_cases q47 : x = 47
  · exact hb x (by rw [q47]; decide) h
  by_cases q40 : x = 40
  · exact hb x (by rw [q40]; decide) h
  by_cases q41 : x = 41
  · exact hb x (by rw [q41]; decide) h
  by_cases q44 : x = 44
  · exact hb x (by rw [q44]; decide) h
  by_cases q59 : x = 59
  · exact hb x (by rw [q59]; decide) h
  rw [sgO_34 ⟨q60, q62, q61, q35, q43, q45, q42, q47, q40, q41, q44, q59⟩] at h
  exact absurd h.symm hv
theorem sgE_R {T : Nat → Int32} {n s : Nat} : sgE T n s = if (T s = 60 ∨ T s = 62) ∧ s + 1 < n ∧ T (s + 1) = 61 then s + 2 else s + 1 := by
  have a : g_X6_signOf (T s) = 19 ↔ T s = 60 := ⟨fun q => sg_not (v := 19) (b := 60) (by decide) (by decide) q, fun q => by rw [q]; decide⟩
  have b : g_X6_signOf (T s) = 21 ↔ T s = 62 := ⟨fun q => sg_not (v := 21) (b := 62) (by decide) (by decide) q, fun q => by rw [q]; decide⟩
  unfold sgE
  simp only [a, b]
  by_cases w : (T s = 60 ∨ T s = 62) ∧ s + 1 < n ∧ T (s + 1) = 61
  · rw [if_pos w, if_pos (show s + 1 < n ∧ T (s + 1) = 61 ∧ (T s = 60 ∨ T s = 62) from ⟨w.2.1, w.2.2, w.1⟩)]
  · rw [if_neg w, if_neg (show ¬ (s + 1 < n ∧ T (s + 1) = 61 ∧ (T s = 60 ∨ T s = 62)) from fun y => w ⟨y.2.2, y.1, y.2.1⟩)]
theorem ntk_skip {n : Nat} (h3 : n ≤ 300) : ∀ (m : Nat) (I : Nat → Int32) (p s : Nat), (I 388).toInt = (n : Int) → (I 391).toInt = (p : Int) → p ≤ n → 300 - p < m → spn blk (ri 387) n p s → ∃ I' m', g_X12_nextToken_x_L0 J ri rj rq m I = g_X12_nextToken_x_L0 J ri rj rq (m' + 1) I' ∧ (I' 391).toInt = (s : Int) ∧ ∀ f, f ≠ 391 → I' f = I f := by
  intro m
  induction m with
  | zero => intro I p s _ _ _ h; exact absurd h (Nat.not_lt_zero _)
  | succ m ih =>
    intro I p s hn hp hpn hm hs
    by_cases c : p < n ∧ blk (ri 387 p)
    · obtain ⟨s1, s2⟩ := spn_s hs c.1 c.2
      obtain ⟨I', m', i1, i2, i3⟩ := ih (va_up I 391 (I 391 + 1)) (p + 1) s (by rw [va_up_ne _ _ (show (388 : Nat) ≠ 391 by decide)]; exact hn) (by rw [va_up_self]; exact upN hp (by omega)) (by omega) (by omega) s2
      refine ⟨I', m', ?_, i2, fun f hf => (i3 f hf).trans (va_up_ne _ _ hf)⟩
      rw [← i1, g_X12_nextToken_x_L0_e]
      try simp only [↓ap1_n]
      rw [bn_n (see_v hn hp)]
      try simp only [↓ap1_n]
      rw [see_in c.1]
      by_cases q : ri 387 p = 32
      · rw [if_pos q]
      · have q2 : ri 387 p = 10 := by rcases c.2 with y | y; exact absurd y q; exact y
        rw [if_neg q, bn_n (see_v hn hp)]
        try simp only [↓ap1_n]
        rw [see_in c.1, if_pos q2]
    · have e1 : s = p := spn_z hs (by
        by_cases w : p < n
        · exact Or.inr (fun y => c ⟨w, y⟩)
        · exact Or.inl (by omega))
      subst e1
      exact ⟨I, m, rfl, hp, fun _ _ => rfl⟩
theorem K332_a {x : Int32} {I : Nat → Int32} : g_X12_nextToken_x_K332 J ri rj rq x I = g_X12_nextToken_x_K343 J ri rj rq x I := by rw [g_X12_nextToken_x_K332_e]
theorem K327_a {x : Int32} {I : Nat → Int32} : g_X12_nextToken_x_K327 J ri rj rq x I = g_X12_nextToken_x_K343_2 J ri rj rq x I := by rw [g_X12_nextToken_x_K327_e, g_X12_nextToken_x_K332_2_e]
/-- a sign: what becomes of the place and the TOKEN -/
theorem sign_2 {n s : Nat} {I : Nat → Int32} (hn : (I 388).toInt = (n : Int)) (hp : (I 391).toInt = ((s + 1 : Nat) : Int)) (h3 : n ≤ 300) (hsn : s < n) : ∃ I', g_X12_nextToken_x_K343_2 J ri rj rq (ri 387 s) I = (I', J, ri, rj, rq) ∧ (I' 391).toInt = ((if (ri 387 s = 60 ∨ ri 387 s = 62) ∧ s + 1 < n ∧ ri 387 (s + 1) = 61 then s + 2 else s + 1 : Nat) : Int) ∧ I' 393 = (if ri 387 s = 60 then (if s + 1 < n ∧ ri 387 (s + 1) = 61 then 4 else 60) else if ri 387 s = 62 then (if s + 1 < n ∧ ri 387 (s + 1) = 61 then 5 else 62) else ri 387 s) ∧ ∀ f, f ≠ 391 → f ≠ 393 → I' f = I f := by
  rw [g_X12_nextToken_x_K343_2_e]
  try simp only [↓ap1_n]
  have z1 : ∀ x : Int32, va_up I 393 x 391 = I 391 := fun x => va_up_ne _ _ (by decide)
  have z8 : ∀ x : Int32, va_up I 393 x 388 = I 388 := fun x => va_up_ne _ _ (by decide)
  have sv : ∀ x : Int32, g_X12_see_x (I 391) (va_up I 393 x) J ri rj rq = (seeN (ri 387) n (s + 1), va_up I 393 x, J, ri, rj, rq) := fun x => see_v (by rw [z8]; exact hn) hp
  have k61 : seeN (ri 387) n (s + 1) = 61 ↔ s + 1 < n ∧ ri 387 (s + 1) = 61 := by
    by_cases d : s + 1 < n
    · rw [see_in d]; exact ⟨fun y => ⟨d, y⟩, fun y => y.2⟩
    · rw [see_out (by omega)]; exact ⟨fun y => absurd y (by decide), fun y => absurd y.1 d⟩
  have more : ∀ (x : Int32) (t : Int32), (va_up (va_up (va_up I 393 x) 391 (I 391 + 1)) 393 t 391).toInt = ((s + 2 : Nat) : Int) := fun x t => by
    rw [va_up_ne _ _ (show (391 : Nat) ≠ 393 by decide), va_up_self]
    exact upN hp (by omega)
  have fr3 : ∀ (x t : Int32) (f : Nat), f ≠ 391 → f ≠ 393 → va_up (va_up (va_up I 393 x) 391 (I 391 + 1)) 393 t f = I f := fun x t f f1 f2 => by rw [va_up_ne _ _ f2, va_up_ne _ _ f1, va_up_ne _ _ f2]
  by_cases q : ri 387 s = 60
  · rw [if_pos q, if_pos q, z1, bn_n (sv _)]
    by_cases w : s + 1 < n ∧ ri 387 (s + 1) = 61
    · rw [if_pos (k61.mpr w), if_pos (show (ri 387 s = 60 ∨ ri 387 s = 62) ∧ s + 1 < n ∧ ri 387 (s + 1) = 61 from ⟨Or.inl q, w⟩), if_pos w]
      try simp only [↓ap1_n]
      exact ⟨_, rfl, more _ _, va_up_self _ _ _, fr3 _ _⟩
    · rw [if_neg (fun y => w (k61.mp y)), if_neg (show ¬ ((ri 387 s = 60 ∨ ri 387 s = 62) ∧ s + 1 < n ∧ ri 387 (s + 1) = 61) from fun y => w y.2), if_neg w]
      exact ⟨_, rfl, by rw [z1]; exact hp, by rw [va_up_self]; exact q, fun f _ f2 => va_up_ne _ _ f2⟩
  · rw [if_neg q, if_neg q]
    by_cases q2 : ri 387 s = 62
    · rw [if_pos q2, if_pos q2, z1, bn_n (sv _)]
      by_cases w : s + 1 < n ∧ ri 387 (s + 1) = 61
      · rw [if_pos (k61.mpr w), if_pos (show (ri 387 s = 60 ∨ ri 387 s = 62) ∧ s + 1 < n ∧ ri 387 (s + 1) = 61 from ⟨Or.inr q2, w⟩), if_pos w]
        try simp only [↓ap1_n]
        exact ⟨_, rfl, more _ _, va_up_self _ _ _, fr3 _ _⟩
      · rw [if_neg (fun y => w (k61.mp y)), if_neg (show ¬ ((ri 387 s = 60 ∨ ri 387 s = 62) ∧ s + 1 < n ∧ ri 387 (s + 1) = 61) from fun y => w y.2), if_neg w]
        exact ⟨_, rfl, by rw [z1]; exact hp, by rw [va_up_self]; exact q2, fun f _ f2 => va_up_ne _ _ f2⟩
    · rw [if_neg q2, if_neg q2, if_neg (show ¬ ((ri 387 s = 60 ∨ ri 387 s = 62) ∧ s + 1 < n ∧ ri 387 (s + 1) = 61) from fun y => by rcases y.1 with z | z; exact q z; exact q2 z)]
      exact ⟨_, rfl, by rw [z1]; exact hp, va_up_self _ _ _, fun f _ f2 => va_up_ne _ _ f2⟩
theorem sign_0 {s : Nat} {I : Nat → Int32} (hp : (I 391).toInt = ((s + 1 : Nat) : Int)) (q : ri 387 s ≠ 60) (q2 : ri 387 s ≠ 62) : ∃ I', g_X12_nextToken_x_K343 J ri rj rq (ri 387 s) I = (I', J, ri, rj, rq) ∧ (I' 391).toInt = ((s + 1 : Nat) : Int) ∧ I' 393 = 3 ∧ ∀ f, f ≠ 391 → f ≠ 393 → I' f = I f := by
  rw [g_X12_nextToken_x_K343_e]
  try simp only [↓ap1_n]
  rw [if_neg q, if_neg q2]
  exact ⟨_, rfl, by rw [va_up_ne _ _ (show (391 : Nat) ≠ 393 by decide)]; exact hp, va_up_self _ _ _, fun f _ f2 => va_up_ne _ _ f2⟩
theorem ntk_v {n : Nat} (h3 : n ≤ 300) {I : Nat → Int32} {p s e : Nat} {c v : Int32} (hn : (I 388).toInt = (n : Int)) (hp : (I 391).toInt = (p : Int)) (hpn : p ≤ n) (hb : ∀ j, j < n → 0 ≤ (ri 387 j).toInt) (ht : TKC (ri 387) n p c s e v) : ∃ I' J', g_X12_nextToken_x I J ri rj rq = (I', J', ri, rj, rq) ∧ (I' 391).toInt = (e : Int) ∧ (I' 392).toInt = (s : Int) ∧ TKF I' J' c v ∧ (∀ f, f ≠ 391 → f ≠ 392 → f ≠ 393 → f ≠ 394 → I' f = I f) ∧ ∀ f, f ≠ 395 → J' f = J f := by
  have hle := TKC_le ht
  obtain ⟨h0, h⟩ := ht
  rw [g_X12_nextToken_x_e]
  try simp only [↓ap1_n]
  obtain ⟨I1, m, a1, a2, a3⟩ := ntk_skip (J := J) (ri := ri) (rj := rj) (rq := rq) h3 ((300 - (I 391).toInt).toNat + 1) I p s hn hp hpn (by omega) h0
  have hn1 : (I1 388).toInt = (n : Int) := by rw [a3 388 (by decide)]; exact hn
  rw [a1, g_X12_nextToken_x_L0_e]
  try simp only [↓ap1_n]
  rw [bn_n (see_v hn1 a2)]
  try simp only [↓ap1_n]
  have nb : ¬ seeN (ri 387) n s = 32 ∧ ¬ seeN (ri 387) n s = 10 := by
    by_cases d : s < n
    · rw [see_in d]
      have := h0.2.2.2 d
      exact ⟨fun y => this (Or.inl y), fun y => this (Or.inr y)⟩
    · rw [see_out (by omega)]; exact ⟨by decide, by decide⟩
  rw [if_neg nb.1, bn_n (see_v hn1 a2)]
  try simp only [↓ap1_n]
  rw [if_neg nb.2]
  have z7 : va_up I1 392 (I1 391) 391 = I1 391 := va_up_ne _ _ (by decide)
  have z8 : va_up I1 392 (I1 391) 388 = I1 388 := va_up_ne _ _ (by decide)
  have z2 : va_up I1 392 (I1 391) 392 = I1 391 := va_up_self _ _ _
  have fr : ∀ f, f ≠ 391 → f ≠ 392 → va_up I1 392 (I1 391) f = I f := fun f f1 f2 => (va_up_ne _ _ f2).trans (a3 f f1)
  rw [z7]
  generalize va_up I1 392 (I1 391) = I2 at z7 z8 z2 fr ⊢
  have hn2 : (I2 388).toInt = (n : Int) := by rw [z8]; exact hn1
  have hp2 : (I2 391).toInt = (s : Int) := by rw [z7]; exact a2
  have hs2 : (I2 392).toInt = (s : Int) := by rw [z2]; exact a2
  rw [bn_n (see_v hn2 a2)]
  rcases h with ⟨b1, b2, b3⟩ | ⟨b1, b2, b3, b4, b5⟩ | ⟨b1, b2, b3, b4⟩ | ⟨b1, b2, b3, b4, b5⟩
  · rw [see_out (by omega), if_neg (show ¬ (0 : Int32) ≤ -1 by decide)]
    refine ⟨va_up I2 393 0, J, rfl, ?_, ?_, ?_, fun f f1 f2 f3 f4 => (va_up_ne _ _ f3).trans (fr f f1 f2), fun _ _ => rfl⟩
    · rw [va_up_ne _ _ (show (391 : Nat) ≠ 393 by decide), hp2, b1, b2]
    · rw [va_up_ne _ _ (show (392 : Nat) ≠ 393 by decide)]; exact hs2
    · rw [b3]; exact tkf_lit (va_up_self _ _ _) (by decide)
  · rw [see_in b1, if_pos (show (0 : Int32) ≤ ri 387 s from Int32.le_iff_toInt_le.mpr (hb s b1)), mD_1 b2, if_neg (show ¬ (1 : Int32) = 0 by decide)]
    try simp only [↓ap1_n]
    have w7 : va_up (va_up I2 393 1) 394 0 391 = I2 391 := by rw [va_up_ne _ _ (show (391 : Nat) ≠ 394 by decide), va_up_ne _ _ (show (391 : Nat) ≠ 393 by decide)]
    rw [w7]
    obtain ⟨I', i1, i2, i3, i4⟩ := numR_L (J := J) (ri := ri) (rj := rj) (rq := rq) h3 ((300 - (I2 391).toInt).toNat + 1) (va_up (va_up I2 393 1) 394 0) s e (by rw [va_up_ne _ _ (show (388 : Nat) ≠ 394 by decide), va_up_ne _ _ (show (388 : Nat) ≠ 393 by decide)]; exact hn2) (by rw [w7]; exact hp2) (by omega) (by omega) b3
    refine ⟨I', J, i1, i2, ?_, ?_, fun f f1 f2 f3 f4 => by rw [i4 f f1 f4, va_up_ne _ _ f4, va_up_ne _ _ f3]; exact fr f f1 f2, fun _ _ => rfl⟩
    · rw [i4 392 (by decide) (by decide), va_up_ne _ _ (show (392 : Nat) ≠ 394 by decide), va_up_ne _ _ (show (392 : Nat) ≠ 393 by decide)]; exact hs2
    · rw [b4]
      refine tkf_num (by rw [i4 393 (by decide) (by decide), va_up_ne _ _ (show (393 : Nat) ≠ 394 by decide), va_up_self]) ?_
      rw [i3, va_up_self, b5]
      exact nv_eq (e - s) s 0 0 (fun j h1 h2 => b3.2.2.1 j h1 (by omega)) (Or.inl ⟨by decide, by decide, rfl⟩)
  · have nd : ¬ dgt (ri 387 s) := fun q => by unfold dgt at q; unfold ltr at b2; omega
    rw [see_in b1, if_pos (show (0 : Int32) ≤ ri 387 s from Int32.le_iff_toInt_le.mpr (hb s b1)), mD_0 nd, if_pos (show (0 : Int32) = 0 from rfl), mL_1 b2, if_neg (show ¬ (1 : Int32) = 0 by decide)]
    try simp only [↓ap1_n]
    have w7 : va_up I2 393 2 391 = I2 391 := va_up_ne _ _ (by decide)
    rw [w7]
    obtain ⟨I', J', i1, i2, i3, i4, i5⟩ := wordR_L (ri := ri) (rj := rj) (rq := rq) h3 ((300 - (I2 391).toInt).toNat + 1) (va_up I2 393 2) (va_up J 395 0) s s e (by rw [va_up_ne _ _ (show (388 : Nat) ≠ 393 by decide)]; exact hn2) (by rw [w7]; exact hp2) (by rw [va_up_ne _ _ (show (392 : Nat) ≠ 393 by decide)]; exact hs2) (Nat.le_refl _) (by omega) (by omega) b3 (by omega) (by
      rw [va_up_self, if_pos (show s - s ≤ 7 by omega), Nat.sub_self]
      rfl)
    refine ⟨I', J', i1, i2, ?_, ?_, fun f f1 f2 f3 f4 => by rw [i4 f f1, va_up_ne _ _ f3]; exact fr f f1 f2, fun f hf => (i5 f hf).trans (va_up_ne _ _ hf)⟩
    · rw [i4 392 (by decide), va_up_ne _ _ (show (392 : Nat) ≠ 393 by decide)]; exact hs2
    · rw [b4, wtk_N b3]
      refine tkf_wd (by rw [i4 393 (by decide), va_up_self]) i3 ?_
      unfold wdN
      by_cases q : e - s ≤ 7
      · rw [if_pos q]
        have := pkN_lt (e - s) (ltr_byt b3 (e - s) (by omega))
        have h7 : 256 ^ (e - s) ≤ 256 ^ 7 := Nat.pow_le_pow_right (by decide) q
        have h8 : 256 ^ 7 < 2 ^ 63 := by decide
        omega
      · rw [if_neg q]; decide
  · rw [see_in b1, if_pos (show (0 : Int32) ≤ ri 387 s from Int32.le_iff_toInt_le.mpr (hb s b1)), mD_0 b2, if_pos (show (0 : Int32) = 0 from rfl), mL_0 b3, if_pos (show (0 : Int32) = 0 from rfl)]
    simp only [↓ap1_n, K327_a, K332_a]
    have hp3 : (va_up I2 391 (I1 391 + 1) 391).toInt = ((s + 1 : Nat) : Int) := by rw [va_up_self]; exact upN a2 (by omega)
    have hn3 : (va_up I2 391 (I1 391 + 1) 388).toInt = (n : Int) := by rw [va_up_ne _ _ (show (388 : Nat) ≠ 391 by decide)]; exact hn2
    have done : ∀ I' : Nat → Int32, (I' 391).toInt = (sgE (ri 387) n s : Int) → I' 393 = sgR (ri 387) n s → (∀ f, f ≠ 391 → f ≠ 393 → I' f = va_up I2 391 (I1 391 + 1) f) → (I' 391).toInt = (e : Int) ∧ (I' 392).toInt = (s : Int) ∧ TKF I' J c v ∧ (∀ f, f ≠ 391 → f ≠ 392 → f ≠ 393 → f ≠ 394 → I' f = I f) ∧ ∀ f, f ≠ 395 → J f = J f := fun I' g1 g2 g3 => by
      refine ⟨by rw [g1, b4], by rw [g3 392 (by decide) (by decide), va_up_ne _ _ (show (392 : Nat) ≠ 391 by decide)]; exact hs2, ?_, fun f f1 f2 f3 _ => by rw [g3 f f1 f3, va_up_ne _ _ f1]; exact fr f f1 f2, fun _ _ => rfl⟩
      rw [b5]
      exact tkf_lit g2 sg_pair
    have yes : (ri 387 s = 60 ∨ ri 387 s = 62 ∨ ri 387 s = 61 ∨ ri 387 s = 35 ∨ ri 387 s = 43 ∨ ri 387 s = 45 ∨ ri 387 s = 42 ∨ ri 387 s = 47 ∨ ri 387 s = 40 ∨ ri 387 s = 41 ∨ ri 387 s = 44 ∨ ri 387 s = 59) → ∃ I' J', g_X12_nextToken_x_K343_2 J ri rj rq (ri 387 s) (va_up I2 391 (I1 391 + 1)) = (I', J', ri, rj, rq) ∧ (I' 391).toInt = (e : Int) ∧ (I' 392).toInt = (s : Int) ∧ TKF I' J' c v ∧ (∀ f, f ≠ 391 → f ≠ 392 → f ≠ 393 → f ≠ 394 → I' f = I f) ∧ ∀ f, f ≠ 395 → J' f = J f := fun hy => by
      obtain ⟨I', i1, i2, i3, i4⟩ := sign_2 (J := J) (ri := ri) (rj := rj) (rq := rq) hn3 hp3 h3 b1
      refine ⟨I', J, i1, done I' (by rw [i2, sgE_R]) ?_ i4⟩
      rw [i3]
      unfold sgR
      by_cases x0 : ri 387 s = 60
      · rw [if_pos x0, if_pos x0]
      rw [if_neg x0, if_neg x0]
      by_cases x1 : ri 387 s = 62
      · rw [if_pos x1, if_pos x1]
      rw [if_neg x1, if_neg x1]
      rcases hy with y | y | y | y | y | y | y | y | y | y | y | y
      · exact absurd y x0
      · exact absurd y x1
      · rw [y, if_pos (show (61 : Int32) = 61 from rfl)]
      · rw [y, if_neg (show ¬ (35 : Int32) = 61 by decide), if_pos (show (35 : Int32) = 35 from rfl)]
      · rw [y, if_neg (show ¬ (43 : Int32) = 61 by decide), if_neg (show ¬ (43 : Int32) = 35 by decide), if_pos (show (43 : Int32) = 43 from rfl)]
      · rw [y, if_neg (show ¬ (45 : Int32) = 61 by decide), if_neg (show ¬ (45 : Int32) = 35 by decide), if_neg (show ¬ (45 : Int32) = 43 by decide), if_pos (show (45 : Int32) = 45 from rfl)]
      · rw [y, if_neg (show ¬ (42 : Int32) = 61 by decide), if_neg (show ¬ (42 : Int32) = 35 by decide), if_neg (show ¬ (42 : Int32) = 43 by decide), if_neg (show ¬ (42 : Int32) = 45 by decide), if_pos (show (42 : Int32) = 42 from rfl)]
      · rw [y, if_neg (show ¬ (47 : Int32) = 61 by decide), if_neg (show ¬ (47 : Int32) = 35 by decide), if_neg (show ¬ (47 : Int32) = 43 by decide), if_neg (show ¬ (47 : Int32) = 45 by decide), if_neg (show ¬ (47 : Int32) = 42 by decide), if_pos (show (47 : Int32) = 47 from rfl)]
      · rw [y, if_neg (show ¬ (40 : Int32) = 61 by decide), if_neg (show ¬ (40 : Int32) = 35 by decide), if_neg (show ¬ (40 : Int32) = 43 by decide), if_neg (show ¬ (40 : Int32) = 45 by decide), if_neg (show ¬ (40 : Int32) = 42 by decide), if_neg (show ¬ (40 : Int32) = 47 by decide), if_pos (show (40 : Int32) = 40 from rfl)]
      · rw [y, if_neg (show ¬ (41 : Int32) = 61 by decide), if_neg (show ¬ (41 : Int32) = 35 by decide), if_neg (show ¬ (41 : Int32) = 43 by decide), if_neg (show ¬ (41 : Int32) = 45 by decide), if_neg (show ¬ (41 : Int32) = 42 by decide), if_neg (show ¬ (41 : Int32) = 47 by decide), if_neg (show ¬ (41 : Int32) = 40 by decide), if_pos (show (41 : Int32) = 41 from rfl)]
      · rw [y, if_neg (show ¬ (44 : Int32) = 61 by decide), if_neg (show ¬ (44 : Int32) = 35 by decide), if_neg (show ¬ (44 : Int32) = 43 by decide), if_neg (show ¬ (44 : Int32) = 45 by decide), if_neg (show ¬ (44 : Int32) = 42 by decide), if_neg (show ¬ (44 : Int32) = 47 by decide), if_neg (show ¬ (44 : Int32) = 40 by decide), if_neg (show ¬ (44 : Int32) = 41 by decide), if_pos (show (44 : Int32) = 44 from rfl)]
      · rw [y, if_neg (show ¬ (59 : Int32) = 61 by decide), if_neg (show ¬ (59 : Int32) = 35 by decide), if_neg (show ¬ (59 : Int32) = 43 by decide), if_neg (show ¬ (59 : Int32) = 45 by decide), if_neg (show ¬ (59 : Int32) = 42 by decide), if_neg (show ¬ (59 : Int32) = 47 by decide), if_neg (show ¬ (59 : Int32) = 40 by decide), if_neg (show ¬ (59 : Int32) = 41 by decide), if_neg (show ¬ (59 : Int32) = 44 by decide), if_pos (show (59 : Int32) = 59 from rfl)]
    by_cases x0 : ri 387 s = 60
    · rw [if_pos x0]; exact yes (Or.inl x0)
    rw [if_neg x0]
    by_cases x1 : ri 387 s = 62
    · rw [if_pos x1]; exact yes (Or.inr (Or.inl x1))
    rw [if_neg x1]
    by_cases x2 : ri 387 s = 61
    · rw [if_pos x2]; exact yes (Or.inr (Or.inr (Or.inl x2)))
    rw [if_neg x2]
    by_cases x3 : ri 387 s = 35
    · rw [if_pos x3]; exact yes (Or.inr (Or.inr (Or.inr (Or.inl x3))))
    rw [if_neg x3]
    by_cases x4 : ri 387 s = 43
    · rw [if_pos x4]; exact yes (Or.inr (Or.inr (Or.inr (Or.inr (Or.inl x4)))))
    rw [if_neg x4]
    by_cases x5 : ri 387 s = 45
    · rw [if_pos x5]; exact yes (Or.inr (Or.inr (Or.inr (Or.inr (Or.inr (Or.inl x5))))))
    rw [if_neg x5]
    by_cases x6 : ri 387 s = 42
    · rw [if_pos x6]; exact yes (Or.inr (Or.inr (Or.inr (Or.inr (Or.inr (Or.inr (Or.inl x6)))))))
    rw [if_neg x6]
    by_cases x7 : ri 387 s = 47
    · rw [if_pos x7]; exact yes (Or.inr (Or.inr (Or.inr (Or.inr (Or.inr (Or.inr (Or.inr (Or.inl x7))))))))
    rw [if_neg x7]
    by_cases x8 : ri 387 s = 40
    · rw [if_pos x8]; exact yes (Or.inr (Or.inr (Or.inr (Or.inr (Or.inr (Or.inr (Or.inr (Or.inr (Or.inl x8)))))))))
    rw [if_neg x8]
    by_cases x9 : ri 387 s = 41
    · rw [if_pos x9]; exact yes (Or.inr (Or.inr (Or.inr (Or.inr (Or.inr (Or.inr (Or.inr (Or.inr (Or.inr (Or.inl x9))))))))))
    rw [if_neg x9]
    by_cases x10 : ri 387 s = 44
    · rw [if_pos x10]; exact yes (Or.inr (Or.inr (Or.inr (Or.inr (Or.inr (Or.inr (Or.inr (Or.inr (Or.inr (Or.inr (Or.inl x10)))))))))))
    rw [if_neg x10]
    by_cases x11 : ri 387 s = 59
    · rw [if_pos x11]; exact yes (Or.inr (Or.inr (Or.inr (Or.inr (Or.inr (Or.inr (Or.inr (Or.inr (Or.inr (Or.inr (Or.inr (x11))))))))))))
    rw [if_neg x11]
    obtain ⟨I', i1, i2, i3, i4⟩ := sign_0 (J := J) (ri := ri) (rj := rj) (rq := rq) hp3 x0 x1
    refine ⟨I', J, i1, done I' ?_ ?_ i4⟩
    · rw [i2, sgE_R, if_neg (show ¬ ((ri 387 s = 60 ∨ ri 387 s = 62) ∧ s + 1 < n ∧ ri 387 (s + 1) = 61) from fun y => by rcases y.1 with z | z; exact x0 z; exact x1 z)]
    · rw [i3]
      unfold sgR
      rw [if_neg x0, if_neg x1, if_neg x2, if_neg x3, if_neg x4, if_neg x5, if_neg x6, if_neg x7, if_neg x8, if_neg x9, if_neg x10, if_neg x11]
end PR2
/-! ===== pure: what waits in the class's reader; one turn of it ===== -/
section PR3
/-- the first n of a row, the last first -/
def stl (r : Nat → Int32) : Nat → List Int32
  | 0 => []
  | n + 1 => r n :: stl r n
theorem stl_len (r : Nat → Int32) : ∀ n, (stl r n).length = n
  | 0 => rfl
  | n + 1 => by show (stl r n).length + 1 = n + 1; rw [stl_len r n]
theorem stl_up {r : Nat → Int32} {k : Nat} {v : Int32} : ∀ n, n ≤ k → stl (upd r k v) n = stl r n
  | 0, _ => rfl
  | n + 1, h => by
    show upd r k v n :: stl (upd r k v) n = r n :: stl r n
    rw [upd_n _ _ (by omega), stl_up n (by omega)]
theorem stl_push {r : Nat → Int32} {n : Nat} {v : Int32} : stl (upd r n v) (n + 1) = v :: stl r n := by
  show upd r n v n :: stl (upd r n v) n = v :: stl r n
  rw [upd_s, stl_up n (Nat.le_refl _)]
variable {J : Nat → Int64} {ri : Nat → Nat → Int32} {rj : Nat → Nat → Int64} {rq : Nat → Nat → Option Nat}
theorem emit_c {a : Int32} {I : Nat → Int32} : ∃ (I' : Nat → Int32) (r' : Nat → Nat → Int32), g_X4_emit a I J ri rj rq = (I', J, r', rj, rq) ∧ (∀ f, f ≠ 132 → I' f = I f) ∧ ∀ t, t ≠ 259 → r' t = ri t := by
  rw [g_X4_emit_e]
  try simp only [↓ap1_n]
  by_cases c : (300 : Int32) ≤ I 132
  · rw [if_pos c]; exact ⟨I, ri, rfl, fun _ _ => rfl, fun _ _ => rfl⟩
  · rw [if_neg c]; exact ⟨_, _, rfl, fun f hf => va_up_ne _ _ hf, fun t ht => va_up_ne _ _ ht⟩
theorem refuse_c {a : Int32} {I : Nat → Int32} (h : I 129 = 0) : g_X4_refuse a I J ri rj rq = (va_up (va_up I 129 a) 130 (I 195), J, ri, rj, rq) := by
  rw [g_X4_refuse_e]
  try simp only [↓ap1_n]
  rw [if_pos h, va_up_ne _ _ (show (195 : Nat) ≠ 129 by decide)]
theorem refuse_1 {a : Int32} {I : Nat → Int32} : va_up (va_up I 129 a) 130 (I 195) 129 = a ∧ va_up (va_up I 129 a) 130 (I 195) 130 = I 195 := ⟨by rw [va_up_ne _ _ (show (129 : Nat) ≠ 130 by decide), va_up_self], va_up_self _ _ _⟩
theorem await_c {a : Int32} {I : Nat → Int32} {w : Nat} (hw : (I 134).toInt = (w : Int)) (h40 : w < 40) : g_X4_await a I J ri rj rq = (va_up I 134 (I 134 + 1), J, va_up ri 133 (upd (ri 133) w a), rj, rq) := by
  rw [g_X4_await_e]
  try simp only [↓ap1_n]
  rw [if_neg (show ¬ (40 : Int32) ≤ I 134 from fun q => by have := (le_n (show (40 : Int32).toInt = ((40 : Nat) : Int) by decide) hw).mp q; omega), at_n hw]
theorem await_f {a : Int32} {I : Nat → Int32} : ∃ (I' : Nat → Int32) (r' : Nat → Nat → Int32), g_X4_await a I J ri rj rq = (I', J, r', rj, rq) ∧ ∀ f, f ≠ 134 → I' f = I f := by
  rw [g_X4_await_e]
  try simp only [↓ap1_n]
  by_cases c : (40 : Int32) ≤ I 134
  · rw [if_pos c]; exact ⟨I, ri, rfl, fun _ _ => rfl⟩
  · rw [if_neg c]; exact ⟨_, _, rfl, fun f hf => va_up_ne _ _ hf⟩
/-! settle, on the list of what waits -/
def popR (a : Int32) : List Int32 → List Int32
  | [] => []
  | x :: L => if g_X4_rank x < a then x :: L else popR a L
def popN (a : Int32) : List Int32 → Nat
  | [] => 0
  | x :: L => if g_X4_rank x < a then 0 else (if x = 11 ∨ x = 35 then 1 else 0) + popN a L
theorem settle_fr {a : Int32} : ∀ (m : Nat) (I : Nat → Int32) (r : Nat → Nat → Int32), ∃ (I' : Nat → Int32) (r' : Nat → Nat → Int32), g_X4_settle_L0 a J rj rq m I r = (I', J, r', rj, rq) ∧ ∀ f, f ≠ 132 → f ≠ 134 → f ≠ 135 → I' f = I f
  | 0, I, r => ⟨I, r, rfl, fun _ _ _ _ => rfl⟩
  | m + 1, I, r => by
    rw [g_X4_settle_L0_e]
    try simp only [↓ap1_n]
    by_cases c : I 134 ≤ 0
    · rw [if_pos c]; exact ⟨I, r, rfl, fun _ _ _ _ => rfl⟩
    · rw [if_neg c]
      by_cases d : g_X4_rank (r 133 (I 134 - 1).toNatClampNeg) < a
      · rw [if_pos d]; exact ⟨I, r, rfl, fun _ _ _ _ => rfl⟩
      · rw [if_neg d]
        obtain ⟨I3, r3, e1, e2, e3⟩ := emit_c (J := J) (rj := rj) (rq := rq) (ri := r) (I := va_up I 134 (I 134 - 1)) (a := -r 133 (va_up I 134 (I 134 - 1) 134).toNatClampNeg)
        rw [bv_n e1]
        have fr : ∀ f, f ≠ 132 → f ≠ 134 → f ≠ 135 → I3 f = I f := fun f f1 f2 _ => (e2 f f1).trans (va_up_ne _ _ f2)
        by_cases q : r 133 (va_up I 134 (I 134 - 1) 134).toNatClampNeg = 11
        · rw [if_pos q]
          obtain ⟨I', r', i1, i2⟩ := settle_fr (a := a) m (va_up I3 135 (I3 135 - 1)) r3
          exact ⟨I', r', i1, fun f f1 f2 f3 => by rw [i2 f f1 f2 f3, va_up_ne _ _ f3]; exact fr f f1 f2 f3⟩
        · rw [if_neg q]
          by_cases q2 : r 133 (va_up I 134 (I 134 - 1) 134).toNatClampNeg = 35
          · rw [if_pos q2]
            obtain ⟨I', r', i1, i2⟩ := settle_fr (a := a) m (va_up I3 135 (I3 135 - 1)) r3
            exact ⟨I', r', i1, fun f f1 f2 f3 => by rw [i2 f f1 f2 f3, va_up_ne _ _ f3]; exact fr f f1 f2 f3⟩
          · rw [if_neg q2]
            obtain ⟨I', r', i1, i2⟩ := settle_fr (a := a) m I3 r3
            exact ⟨I', r', i1, fun f f1 f2 f3 => (i2 f f1 f2 f3).trans (fr f f1 f2 f3)⟩
theorem settle_L {a : Int32} : ∀ (m : Nat) (I : Nat → Int32) (r : Nat → Nat → Int32) (w : Nat), (I 134).toInt = (w : Int) → w < m → w ≤ 1000 → (popN a (stl (r 133) w) : Int) ≤ (I 135).toInt → (I 135).toInt ≤ 100 → ∃ (I' : Nat → Int32) (r' : Nat → Nat → Int32) (w' : Nat), g_X4_settle_L0 a J rj rq m I r = (I', J, r', rj, rq) ∧ (I' 134).toInt = (w' : Int) ∧ w' ≤ w ∧ stl (r 133) w' = popR a (stl (r 133) w) ∧ (I' 135).toInt = (I 135).toInt - popN a (stl (r 133) w) ∧ (∀ f, f ≠ 132 → f ≠ 134 → f ≠ 135 → I' f = I f) ∧ ∀ t, t ≠ 259 → r' t = r t := by
  intro m
  induction m with
  | zero => intro I r w _ h; exact absurd h (Nat.not_lt_zero _)
  | succ m ih =>
    intro I r w hw hm hw3 hn h1
    rw [g_X4_settle_L0_e]
    try simp only [↓ap1_n]
    have k0 : (0 : Int32).toInt = ((0 : Nat) : Int) := by decide
    cases w with
    | zero =>
      rw [if_pos ((le_n hw k0).mpr (Nat.le_refl _))]
      exact ⟨I, r, 0, rfl, hw, Nat.le_refl _, rfl, by show _ = _ - ((0 : Nat) : Int); omega, fun _ _ _ _ => rfl, fun _ _ => rfl⟩
    | succ w =>
      rw [if_neg (show ¬ I 134 ≤ 0 from fun q => by have := (le_n hw k0).mp q; omega)]
      have y1 : (I 134 - 1).toInt = (w : Int) := by
        have := i_sub (x := I 134) (y := 1) rfl (show (1 : Int32).toInt = 1 by decide) (by omega) (by omega)
        omega
      have es : stl (r 133) (w + 1) = r 133 w :: stl (r 133) w := rfl
      rw [at_n y1]
      rw [es] at hn ⊢
      by_cases d : g_X4_rank (r 133 w) < a
      · rw [if_pos d]
        refine ⟨I, r, w + 1, rfl, hw, Nat.le_refl _, ?_, ?_, fun _ _ _ _ => rfl, fun _ _ => rfl⟩
        · show r 133 w :: stl (r 133) w = if g_X4_rank (r 133 w) < a then r 133 w :: stl (r 133) w else popR a (stl (r 133) w)
          rw [if_pos d]
        · show _ = _ - (((if g_X4_rank (r 133 w) < a then 0 else (if r 133 w = 11 ∨ r 133 w = 35 then 1 else 0) + popN a (stl (r 133) w)) : Nat) : Int)
          rw [if_pos d]; omega
      · have hn2 : popN a (r 133 w :: stl (r 133) w) = (if r 133 w = 11 ∨ r 133 w = 35 then 1 else 0) + popN a (stl (r 133) w) := if_neg d
        have hr2 : popR a (r 133 w :: stl (r 133) w) = popR a (stl (r 133) w) := if_neg d
        rw [if_neg d, hr2, hn2]
        rw [hn2] at hn
        rw [va_up_self, at_n y1]
        obtain ⟨I3, r3, e1, e2, e3⟩ := emit_c (J := J) (rj := rj) (rq := rq) (ri := r) (I := va_up I 134 (I 134 - 1)) (a := -r 133 w)
        rw [bv_n e1]
        have h134 : (I3 134).toInt = (w : Int) := by rw [e2 134 (by decide), va_up_self]; exact y1
        have h135 : I3 135 = I 135 := by rw [e2 135 (by decide), va_up_ne _ _ (show (135 : Nat) ≠ 134 by decide)]
        have r133 : r3 133 = r 133 := e3 133 (by decide)
        have fr : ∀ f, f ≠ 132 → f ≠ 134 → f ≠ 135 → I3 f = I f := fun f f1 f2 _ => (e2 f f1).trans (va_up_ne _ _ f2)
        have dec : 1 ≤ (I 135).toInt → (I3 135 - 1).toInt = (I 135).toInt - 1 := fun hx => by
          rw [h135]
          exact i_sub rfl (show (1 : Int32).toInt = 1 by decide) (by omega) (by omega)
        have go : (r 133 w = 11 ∨ r 133 w = 35) → ∃ (I' : Nat → Int32) (r' : Nat → Nat → Int32) (w' : Nat), g_X4_settle_L0 a J rj rq m (va_up I3 135 (I3 135 - 1)) r3 = (I', J, r', rj, rq) ∧ (I' 134).toInt = (w' : Int) ∧ w' ≤ w + 1 ∧ stl (r 133) w' = popR a (stl (r 133) w) ∧ (I' 135).toInt = (I 135).toInt - (((if r 133 w = 11 ∨ r 133 w = 35 then 1 else 0) + popN a (stl (r 133) w) : Nat) : Int) ∧ (∀ f, f ≠ 132 → f ≠ 134 → f ≠ 135 → I' f = I f) ∧ ∀ t, t ≠ 259 → r' t = r t := fun hq => by
          rw [if_pos hq] at hn ⊢
          have dd := dec (by omega)
          obtain ⟨I', r', w', i1, i2, i3, i4, i5, i6, i7⟩ := ih (va_up I3 135 (I3 135 - 1)) r3 w (by rw [va_up_ne _ _ (show (134 : Nat) ≠ 135 by decide)]; exact h134) (by omega) (by omega) (by rw [va_up_self, dd, r133]; omega) (by rw [va_up_self, dd]; omega)
          rw [r133] at i4 i5
          rw [va_up_self, dd] at i5
          exact ⟨I', r', w', i1, i2, by omega, i4, by omega, fun f f1 f2 f3 => by rw [i6 f f1 f2 f3, va_up_ne _ _ f3]; exact fr f f1 f2 f3, fun t ht => (i7 t ht).trans (e3 t ht)⟩
        by_cases q : r 133 w = 11
        · rw [if_pos q]; exact go (Or.inl q)
        · rw [if_neg q]
          by_cases q2 : r 133 w = 35
          · rw [if_pos q2]; exact go (Or.inr q2)
          · rw [if_neg q2]
            have nq : ¬ (r 133 w = 11 ∨ r 133 w = 35) := fun y => by rcases y with z | z; exact q z; exact q2 z
            rw [if_neg nq] at hn ⊢
            obtain ⟨I', r', w', i1, i2, i3, i4, i5, i6, i7⟩ := ih I3 r3 w h134 (by omega) (by omega) (by rw [h135, r133]; omega) (by rw [h135]; exact h1)
            rw [r133] at i4 i5
            rw [h135] at i5
            exact ⟨I', r', w', i1, i2, by omega, i4, by omega, fun f f1 f2 f3 => (i6 f f1 f2 f3).trans (fr f f1 f2 f3), fun t ht => (i7 t ht).trans (e3 t ht)⟩
theorem settle_L2 {a : Int32} : ∀ (m : Nat) (I : Nat → Int32) (r : Nat → Nat → Int32), g_X4_settle_L0_2 a J rj rq m I r = g_X4_settle_L0 a J rj rq m I r
  | 0, _, _ => rfl
  | m + 1, I, r => by
    have h : g_X4_settle_L0_2 a J rj rq m = g_X4_settle_L0 a J rj rq m := funext fun _ => funext fun _ => settle_L2 m _ _
    rw [g_X4_settle_L0_2_e, g_X4_settle_L0_e, h]
theorem settle_L3 {a : Int32} : ∀ (m : Nat) (I : Nat → Int32) (r : Nat → Nat → Int32), g_X4_settle_L0_3 a J rj rq m I r = g_X4_settle_L0 a J rj rq m I r
  | 0, _, _ => rfl
  | m + 1, I, r => by
    have h : g_X4_settle_L0_3 a J rj rq m = g_X4_settle_L0 a J rj rq m := funext fun _ => funext fun _ => settle_L3 m _ _
    rw [g_X4_settle_L0_3_e, g_X4_settle_L0_e, h]
/-- settle is its loop -/
theorem settle_is {a : Int32} {I : Nat → Int32} {w : Nat} (hw : (I 134).toInt = (w : Int)) (hw3 : w ≤ 1000) : g_X4_settle a I J ri rj rq = g_X4_settle_L0 a J rj rq (w + 1) I ri := by
  rw [g_X4_settle_e, g_X4_settle_L0_e]
  try simp only [↓ap1_n, settle_L2, settle_L3]
  by_cases c : I 134 ≤ 0
  · rw [if_pos c, if_pos c]
  · rw [if_neg c, if_neg c]
    have w1 : 1 ≤ w := by
      have h9 : ¬ w ≤ 0 := fun y => c ((le_n hw (show (0 : Int32).toInt = ((0 : Nat) : Int) by decide)).mpr y)
      omega
    by_cases d : g_X4_rank (ri 133 (I 134 - 1).toNatClampNeg) < a
    · rw [if_pos d, if_pos d]
    · rw [if_neg d, if_neg d]
      obtain ⟨I3, r3, e1, e2, e3⟩ := emit_c (J := J) (rj := rj) (rq := rq) (ri := ri) (I := va_up I 134 (I 134 - 1)) (a := -ri 133 (va_up I 134 (I 134 - 1) 134).toNatClampNeg)
      rw [bv_n e1, bv_n e1]
      have y1 : (I 134 - 1).toInt = (w : Int) - 1 := by
        have := i_sub (x := I 134) (y := 1) rfl (show (1 : Int32).toInt = 1 by decide) (by omega) (by omega)
        omega
      have h134 : (I3 134).toInt = (w : Int) - 1 := by rw [e2 134 (by decide), va_up_self]; exact y1
      have fu : ((I3 134).toInt - 0).toNat + 1 = w := by omega
      have fu2 : ((va_up I3 135 (I3 135 - 1) 134).toInt - 0).toNat + 1 = w := by rw [va_up_ne _ _ (show (134 : Nat) ≠ 135 by decide)]; exact fu
      by_cases q : ri 133 (va_up I 134 (I 134 - 1) 134).toNatClampNeg = 11
      · rw [if_pos q, if_pos q, fu2]
      · rw [if_neg q, if_neg q]
        by_cases q2 : ri 133 (va_up I 134 (I 134 - 1) 134).toNatClampNeg = 35
        · rw [if_pos q2, if_pos q2, fu2]
        · rw [if_neg q2, if_neg q2, fu]
theorem settle_v {a : Int32} {I : Nat → Int32} {w : Nat} (hw : (I 134).toInt = (w : Int)) (hw3 : w ≤ 1000) (hn : (popN a (stl (ri 133) w) : Int) ≤ (I 135).toInt) (h1 : (I 135).toInt ≤ 100) : ∃ (I' : Nat → Int32) (r' : Nat → Nat → Int32) (w' : Nat), g_X4_settle a I J ri rj rq = (I', J, r', rj, rq) ∧ (I' 134).toInt = (w' : Int) ∧ w' ≤ w ∧ stl (r' 133) w' = popR a (stl (ri 133) w) ∧ (I' 135).toInt = (I 135).toInt - popN a (stl (ri 133) w) ∧ (∀ f, f ≠ 132 → f ≠ 134 → f ≠ 135 → I' f = I f) ∧ ∀ t, t ≠ 259 → r' t = ri t := by
  rw [settle_is hw hw3]
  obtain ⟨I', r', w', i1, i2, i3, i4, i5, i6, i7⟩ := settle_L (J := J) (rj := rj) (rq := rq) (a := a) (w + 1) I ri w hw (Nat.lt_succ_self _) hw3 hn h1
  exact ⟨I', r', w', i1, i2, i3, by rw [i7 133 (by decide)]; exact i4, i5, i6, i7⟩
theorem settle_f {a : Int32} {I : Nat → Int32} : ∃ (I' : Nat → Int32) (r' : Nat → Nat → Int32), g_X4_settle a I J ri rj rq = (I', J, r', rj, rq) ∧ ∀ f, f ≠ 132 → f ≠ 134 → f ≠ 135 → I' f = I f := by
  rw [g_X4_settle_e]
  try simp only [↓ap1_n, settle_L2, settle_L3]
  by_cases c : I 134 ≤ 0
  · rw [if_pos c]; exact ⟨I, ri, rfl, fun _ _ _ _ => rfl⟩
  · rw [if_neg c]
    by_cases d : g_X4_rank (ri 133 (I 134 - 1).toNatClampNeg) < a
    · rw [if_pos d]; exact ⟨I, ri, rfl, fun _ _ _ _ => rfl⟩
    · rw [if_neg d]
      obtain ⟨I3, r3, e1, e2, e3⟩ := emit_c (J := J) (rj := rj) (rq := rq) (ri := ri) (I := va_up I 134 (I 134 - 1)) (a := -ri 133 (va_up I 134 (I 134 - 1) 134).toNatClampNeg)
      rw [bv_n e1]
      have fr : ∀ f, f ≠ 132 → f ≠ 134 → f ≠ 135 → I3 f = I f := fun f f1 f2 _ => (e2 f f1).trans (va_up_ne _ _ f2)
      have go : ∀ (m : Nat) (K : Nat → Int32), (∀ f, f ≠ 135 → K f = I3 f) → ∃ (I' : Nat → Int32) (r' : Nat → Nat → Int32), g_X4_settle_L0 a J rj rq m K r3 = (I', J, r', rj, rq) ∧ ∀ f, f ≠ 132 → f ≠ 134 → f ≠ 135 → I' f = I f := fun m K hK => by
        obtain ⟨I', r', i1, i2⟩ := settle_fr (J := J) (rj := rj) (rq := rq) (a := a) m K r3
        exact ⟨I', r', i1, fun f f1 f2 f3 => by rw [i2 f f1 f2 f3, hK f f3]; exact fr f f1 f2 f3⟩
      by_cases q : ri 133 (va_up I 134 (I 134 - 1) 134).toNatClampNeg = 11
      · rw [if_pos q]; exact go _ _ (fun f hf => va_up_ne _ _ hf)
      · rw [if_neg q]
        by_cases q2 : ri 133 (va_up I 134 (I 134 - 1) 134).toNatClampNeg = 35
        · rw [if_pos q2]; exact go _ _ (fun f hf => va_up_ne _ _ hf)
        · rw [if_neg q2]; exact go _ _ (fun _ _ => rfl)
/-! opening: ( not and - of one ONE -/
theorem open_v {t : Int32} {I : Nat → Int32} {w o : Nat} (ht : t = 29 ∨ t = 11 ∨ t = 35) (ho : (I 135).toInt = (o : Int)) (h8 : o < 8) (hw : (I 134).toInt = (w : Int)) (h40 : w < 40) : ∃ I' : Nat → Int32, g_X4_openUp t I J ri rj rq = (I', J, va_up ri 133 (upd (ri 133) w t), rj, rq) ∧ (I' 135).toInt = ((o + 1 : Nat) : Int) ∧ (I' 134).toInt = ((w + 1 : Nat) : Int) ∧ I' 136 = (if t = 29 then I 136 + 1 else I 136) ∧ I' 137 = (if t = 11 then 1 else 0) ∧ ∀ f, f ≠ 134 → f ≠ 135 → f ≠ 136 → f ≠ 137 → I' f = I f := by
  rw [g_X4_openUp_e]
  try simp only [↓ap1_n]
  rw [if_pos ((lt_n ho (show (8 : Int32).toInt = ((8 : Nat) : Int) by decide)).mpr h8)]
  have k5 := upN ho (by omega)
  rcases ht with q | q | q <;> subst q
  · rw [if_pos (show (29 : Int32) = 29 from rfl)]
    have e := await_c (J := J) (ri := ri) (rj := rj) (rq := rq) (a := 29) (I := va_up (va_up (va_up I 135 (I 135 + 1)) 136 (va_up I 135 (I 135 + 1) 136 + 1)) 137 0) (w := w) (by rw [va_up_ne _ _ (show (134 : Nat) ≠ 137 by decide), va_up_ne _ _ (show (134 : Nat) ≠ 136 by decide), va_up_ne _ _ (show (134 : Nat) ≠ 135 by decide)]; exact hw) h40
    rw [bv_n e]
    refine ⟨_, rfl, ?_, ?_, ?_, ?_, fun f f1 f2 f3 f4 => by rw [va_up_ne _ _ f1, va_up_ne _ _ f4, va_up_ne _ _ f3, va_up_ne _ _ f2]⟩
    · rw [va_up_ne _ _ (show (135 : Nat) ≠ 134 by decide), va_up_ne _ _ (show (135 : Nat) ≠ 137 by decide), va_up_ne _ _ (show (135 : Nat) ≠ 136 by decide), va_up_self]; exact k5
    · rw [va_up_self, va_up_ne _ _ (show (134 : Nat) ≠ 137 by decide), va_up_ne _ _ (show (134 : Nat) ≠ 136 by decide), va_up_ne _ _ (show (134 : Nat) ≠ 135 by decide)]; exact upN hw (by omega)
    · rw [va_up_ne _ _ (show (136 : Nat) ≠ 134 by decide), va_up_ne _ _ (show (136 : Nat) ≠ 137 by decide), va_up_self, va_up_ne _ _ (show (136 : Nat) ≠ 135 by decide), if_pos (show (29 : Int32) = 29 from rfl)]
    · rw [va_up_ne _ _ (show (137 : Nat) ≠ 134 by decide), va_up_self, if_neg (show ¬ (29 : Int32) = 11 by decide)]
  · rw [if_neg (show ¬ (11 : Int32) = 29 by decide), if_pos (show (11 : Int32) = 11 from rfl)]
    have e := await_c (J := J) (ri := ri) (rj := rj) (rq := rq) (a := 11) (I := va_up (va_up I 135 (I 135 + 1)) 137 1) (w := w) (by rw [va_up_ne _ _ (show (134 : Nat) ≠ 137 by decide), va_up_ne _ _ (show (134 : Nat) ≠ 135 by decide)]; exact hw) h40
    rw [bv_n e]
    refine ⟨_, rfl, ?_, ?_, ?_, ?_, fun f f1 f2 f3 f4 => by rw [va_up_ne _ _ f1, va_up_ne _ _ f4, va_up_ne _ _ f2]⟩
    · rw [va_up_ne _ _ (show (135 : Nat) ≠ 134 by decide), va_up_ne _ _ (show (135 : Nat) ≠ 137 by decide), va_up_self]; exact k5
    · rw [va_up_self, va_up_ne _ _ (show (134 : Nat) ≠ 137 by decide), va_up_ne _ _ (show (134 : Nat) ≠ 135 by decide)]; exact upN hw (by omega)
    · rw [va_up_ne _ _ (show (136 : Nat) ≠ 134 by decide), va_up_ne _ _ (show (136 : Nat) ≠ 137 by decide), va_up_ne _ _ (show (136 : Nat) ≠ 135 by decide), if_neg (show ¬ (11 : Int32) = 29 by decide)]
    · rw [va_up_ne _ _ (show (137 : Nat) ≠ 134 by decide), va_up_self, if_pos (show (11 : Int32) = 11 from rfl)]
  · rw [if_neg (show ¬ (35 : Int32) = 29 by decide), if_neg (show ¬ (35 : Int32) = 11 by decide)]
    have e := await_c (J := J) (ri := ri) (rj := rj) (rq := rq) (a := 35) (I := va_up (va_up I 135 (I 135 + 1)) 137 0) (w := w) (by rw [va_up_ne _ _ (show (134 : Nat) ≠ 137 by decide), va_up_ne _ _ (show (134 : Nat) ≠ 135 by decide)]; exact hw) h40
    rw [bv_n e]
    refine ⟨_, rfl, ?_, ?_, ?_, ?_, fun f f1 f2 f3 f4 => by rw [va_up_ne _ _ f1, va_up_ne _ _ f4, va_up_ne _ _ f2]⟩
    · rw [va_up_ne _ _ (show (135 : Nat) ≠ 134 by decide), va_up_ne _ _ (show (135 : Nat) ≠ 137 by decide), va_up_self]; exact k5
    · rw [va_up_self, va_up_ne _ _ (show (134 : Nat) ≠ 137 by decide), va_up_ne _ _ (show (134 : Nat) ≠ 135 by decide)]; exact upN hw (by omega)
    · rw [va_up_ne _ _ (show (136 : Nat) ≠ 134 by decide), va_up_ne _ _ (show (136 : Nat) ≠ 137 by decide), va_up_ne _ _ (show (136 : Nat) ≠ 135 by decide), if_neg (show ¬ (35 : Int32) = 29 by decide)]
    · rw [va_up_ne _ _ (show (137 : Nat) ≠ 134 by decide), va_up_self, if_neg (show ¬ (35 : Int32) = 11 by decide)]
/-- a fault was told at the TOKEN's first byte -/
def FLT (f : Int32) (I I' : Nat → Int32) : Prop := I' 129 = f ∧ I' 130 = I 195
theorem open_f {t : Int32} {I : Nat → Int32} (h0 : I 129 = 0) (h8 : ¬ (I 135).toInt < 8) : ∃ (I' : Nat → Int32) (r' : Nat → Nat → Int32), g_X4_openUp t I J ri rj rq = (I', J, r', rj, rq) ∧ FLT 3 I I' := by
  rw [g_X4_openUp_e]
  try simp only [↓ap1_n]
  rw [if_neg (show ¬ I 135 < 8 from fun q => h8 (by have := Int32.lt_iff_toInt_lt.mp q; have k8 : (8 : Int32).toInt = 8 := by decide
                                                    omega)), bv_n (refuse_c h0)]
  try simp only [↓ap1_n]
  have fin : ∀ (a : Int32) (K : Nat → Int32), K 129 = 3 → K 130 = I 195 → ∃ (I' : Nat → Int32) (r' : Nat → Nat → Int32), (bnV (g_X4_await a K J ri rj rq) fun (I4 : Nat → Int32) (_ : Nat → Int64) (r4 : Nat → Nat → Int32) (_ : Nat → Nat → Int64) (_ : Nat → Nat → Option Nat) => ((I4, J, r4, rj, rq) : vM)) = (I', J, r', rj, rq) ∧ FLT 3 I I' := fun a K k1 k2 => by
    obtain ⟨I', r', e1, e2⟩ := await_f (J := J) (ri := ri) (rj := rj) (rq := rq) (a := a) (I := K)
    rw [bv_n e1]
    exact ⟨I', r', rfl, (e2 129 (by decide)).trans k1, (e2 130 (by decide)).trans k2⟩
  have r1 := refuse_1 (a := 3) (I := I)
  generalize va_up (va_up I 129 3) 130 (I 195) = K at r1 ⊢
  by_cases q : t = 29
  · rw [if_pos q]
    exact fin _ _ (by rw [va_up_ne _ _ (show (129 : Nat) ≠ 137 by decide), va_up_ne _ _ (show (129 : Nat) ≠ 136 by decide), va_up_ne _ _ (show (129 : Nat) ≠ 135 by decide)]; exact r1.1) (by rw [va_up_ne _ _ (show (130 : Nat) ≠ 137 by decide), va_up_ne _ _ (show (130 : Nat) ≠ 136 by decide), va_up_ne _ _ (show (130 : Nat) ≠ 135 by decide)]; exact r1.2)
  · rw [if_neg q]
    by_cases q2 : t = 11
    · rw [if_pos q2]
      exact fin _ _ (by rw [va_up_ne _ _ (show (129 : Nat) ≠ 137 by decide), va_up_ne _ _ (show (129 : Nat) ≠ 135 by decide)]; exact r1.1) (by rw [va_up_ne _ _ (show (130 : Nat) ≠ 137 by decide), va_up_ne _ _ (show (130 : Nat) ≠ 135 by decide)]; exact r1.2)
    · rw [if_neg q2]
      exact fin _ _ (by rw [va_up_ne _ _ (show (129 : Nat) ≠ 137 by decide), va_up_ne _ _ (show (129 : Nat) ≠ 135 by decide)]; exact r1.1) (by rw [va_up_ne _ _ (show (130 : Nat) ≠ 137 by decide), va_up_ne _ _ (show (130 : Nat) ≠ 135 by decide)]; exact r1.2)
/-! a TOKEN where a ONE is due -/
theorem isN_v {c : Int32} : g_X4_isName c = if 12 ≤ c.toInt ∧ c.toInt ≤ 17 then 1 else 0 := by
  have k1 : (12 : Int32).toInt = 12 := by decide
  have k2 : (17 : Int32).toInt = 17 := by decide
  rw [g_X4_isName_e]
  by_cases a : c < 12
  · have a1 := Int32.lt_iff_toInt_lt.mp a
    rw [if_pos a, if_neg (show ¬ (12 ≤ c.toInt ∧ c.toInt ≤ 17) by omega)]
  · have a1 := Int32.le_iff_toInt_le.mp (Int32.not_lt.mp a)
    rw [if_neg a]
    by_cases b : 17 < c
    · have b1 := Int32.lt_iff_toInt_lt.mp b
      rw [if_pos b, if_neg (show ¬ (12 ≤ c.toInt ∧ c.toInt ≤ 17) by omega)]
    · have b1 := Int32.le_iff_toInt_le.mp (Int32.not_lt.mp b)
      rw [if_neg b, if_pos (show 12 ≤ c.toInt ∧ c.toInt ≤ 17 by omega)]
theorem ro_num {I : Nat → Int32} (hc : I 194 = 18) (hv : (I 196).toInt ≤ 9999) : ∃ (I' : Nat → Int32) (r' : Nat → Nat → Int32), g_X4_readOne I J ri rj rq = (0, I', J, r', rj, rq) ∧ (∀ f, f ≠ 132 → I' f = I f) ∧ ∀ t, t ≠ 259 → r' t = ri t := by
  have k9 : (9999 : Int32).toInt = 9999 := by decide
  rw [g_X4_readOne_e]
  try simp only [↓ap1_n]
  rw [if_pos hc, if_pos (show I 196 ≤ 9999 from Int32.le_iff_toInt_le.mpr (by omega))]
  obtain ⟨I', r', e1, e2, e3⟩ := emit_c (J := J) (ri := ri) (rj := rj) (rq := rq) (a := I 196) (I := I)
  rw [bv_n e1]
  exact ⟨I', r', rfl, e2, e3⟩
theorem ro_big {I : Nat → Int32} (h0 : I 129 = 0) (hc : I 194 = 18) (hv : 9999 < (I 196).toInt) : ∃ (I' : Nat → Int32) (r' : Nat → Nat → Int32), g_X4_readOne I J ri rj rq = (0, I', J, r', rj, rq) ∧ FLT 2 I I' := by
  have k9 : (9999 : Int32).toInt = 9999 := by decide
  rw [g_X4_readOne_e]
  try simp only [↓ap1_n]
  rw [if_pos hc, if_neg (show ¬ I 196 ≤ 9999 from fun q => by have := Int32.le_iff_toInt_le.mp q; omega), bv_n (refuse_c h0)]
  try simp only [↓ap1_n]
  obtain ⟨I', r', e1, e2, e3⟩ := emit_c (J := J) (ri := ri) (rj := rj) (rq := rq) (a := va_up (va_up I 129 2) 130 (I 195) 196) (I := va_up (va_up I 129 2) 130 (I 195))
  rw [bv_n e1]
  exact ⟨I', r', rfl, by rw [e2 129 (by decide)]; exact refuse_1.1, by rw [e2 130 (by decide)]; exact refuse_1.2⟩
theorem ro_name {I : Nat → Int32} (hc : 12 ≤ (I 194).toInt ∧ (I 194).toInt ≤ 17) : ∃ (I' : Nat → Int32) (r' : Nat → Nat → Int32), g_X4_readOne I J ri rj rq = (0, I', J, r', rj, rq) ∧ (∀ f, f ≠ 132 → I' f = I f) ∧ ∀ t, t ≠ 259 → r' t = ri t := by
  rw [g_X4_readOne_e]
  try simp only [↓ap1_n]
  rw [if_neg (show ¬ I 194 = 18 from fun q => by rw [q] at hc; exact absurd hc.2 (by decide)), isN_v, if_pos hc, if_neg (show ¬ (1 : Int32) = 0 by decide)]
  obtain ⟨I', r', e1, e2, e3⟩ := emit_c (J := J) (ri := ri) (rj := rj) (rq := rq) (a := -I 194) (I := I)
  rw [bv_n e1]
  exact ⟨I', r', rfl, e2, e3⟩
theorem ro_op {I : Nat → Int32} {t : Int32} (ht : (I 194 = 26 ∧ t = 35) ∨ (I 194 = 29 ∧ t = 29) ∨ (I 194 = 11 ∧ I 137 ≠ 0 ∧ t = 11)) {I' : Nat → Int32} {r' : Nat → Nat → Int32} (e : g_X4_openUp t I J ri rj rq = (I', J, r', rj, rq)) : g_X4_readOne I J ri rj rq = (1, I', J, r', rj, rq) := by
  rw [g_X4_readOne_e]
  try simp only [↓ap1_n]
  rcases ht with ⟨a, b⟩ | ⟨a, b⟩ | ⟨a, a2, b⟩
  · rw [b] at e
    rw [a, if_neg (show ¬ (26 : Int32) = 18 by decide), show g_X4_isName 26 = 0 from by decide, if_pos (show (0 : Int32) = 0 from rfl), if_pos (show (26 : Int32) = 26 from rfl), bv_n e]
  · rw [b] at e
    rw [a, if_neg (show ¬ (29 : Int32) = 18 by decide), show g_X4_isName 29 = 0 from by decide, if_pos (show (0 : Int32) = 0 from rfl), if_neg (show ¬ (29 : Int32) = 26 by decide), if_pos (show (29 : Int32) = 29 from rfl), bv_n e]
  · rw [b] at e
    rw [a, if_neg (show ¬ (11 : Int32) = 18 by decide), show g_X4_isName 11 = 0 from by decide, if_pos (show (0 : Int32) = 0 from rfl), if_neg (show ¬ (11 : Int32) = 26 by decide), if_neg (show ¬ (11 : Int32) = 29 by decide), if_pos (show (11 : Int32) = 11 from rfl), if_neg a2, bv_n e]
theorem ro_no {I : Nat → Int32} (h0 : I 129 = 0) (h1 : I 194 ≠ 18) (h2 : ¬ (12 ≤ (I 194).toInt ∧ (I 194).toInt ≤ 17)) (h3 : I 194 ≠ 26) (h4 : I 194 ≠ 29) (h5 : I 194 ≠ 11 ∨ I 137 = 0) : ∃ I' : Nat → Int32, g_X4_readOne I J ri rj rq = (1, I', J, ri, rj, rq) ∧ FLT 1 I I' := by
  rw [g_X4_readOne_e]
  try simp only [↓ap1_n]
  rw [if_neg h1, isN_v, if_neg h2, if_pos (show (0 : Int32) = 0 from rfl), if_neg h3, if_neg h4]
  by_cases q : I 194 = 11
  · rw [if_pos q, if_pos (by rcases h5 with y | y; exact absurd q y; exact y), bv_n (refuse_c h0)]
    exact ⟨_, rfl, refuse_1⟩
  · rw [if_neg q, bv_n (refuse_c h0)]
    exact ⟨_, rfl, refuse_1⟩
end PR3
/-! ===== pure: a TOKEN behind a ONE, in the class ===== -/
section PR4
variable {J : Nat → Int64} {ri : Nat → Nat → Int32} {rj : Nat → Nat → Int64} {rq : Nat → Nat → Option Nat}
theorem popR_le {a : Int32} : ∀ L : List Int32, (popR a L).length ≤ L.length
  | [] => Nat.le_refl _
  | x :: L => by
    unfold popR
    split
    · exact Nat.le_refl _
    · have := popR_le (a := a) L
      show (popR a L).length ≤ L.length + 1
      omega
/-- settle, then what was come to waits -/
theorem sa_v {a c : Int32} {K : Nat → Int32} {w o : Nat} (hw : (K 134).toInt = (w : Int)) (hw3 : w < 40) (ho : (K 135).toInt = (o : Int)) (hn : popN a (stl (ri 133) w) ≤ o) (h1 : o ≤ 100) : ∃ (I' : Nat → Int32) (r' : Nat → Nat → Int32), (bnV (g_X4_settle a K J ri rj rq) fun (I6 : Nat → Int32) (_ : Nat → Int64) (r6 : Nat → Nat → Int32) (_ : Nat → Nat → Int64) (_ : Nat → Nat → Option Nat) => bnV (g_X4_await c I6 J r6 rj rq) fun (I7 : Nat → Int32) (_ : Nat → Int64) (r7 : Nat → Nat → Int32) (_ : Nat → Nat → Int64) (_ : Nat → Nat → Option Nat) => (((1 : Int32), I7, J, r7, rj, rq) : Int32 × vM)) = (1, I', J, r', rj, rq) ∧ (I' 134).toInt = (((popR a (stl (ri 133) w)).length + 1 : Nat) : Int) ∧ stl (r' 133) ((popR a (stl (ri 133) w)).length + 1) = c :: popR a (stl (ri 133) w) ∧ (I' 135).toInt = ((o - popN a (stl (ri 133) w) : Nat) : Int) ∧ (∀ f, f ≠ 132 → f ≠ 134 → f ≠ 135 → I' f = K f) ∧ ∀ t, t ≠ 133 → t ≠ 259 → r' t = ri t := by
  obtain ⟨I6, r6, w', e1, e2, e3, e4, e5, e6, e7⟩ := settle_v (J := J) (ri := ri) (rj := rj) (rq := rq) (a := a) hw (by omega) (by omega) (by omega)
  rw [bv_n e1]
  have lw : w' = (popR a (stl (ri 133) w)).length := by rw [← e4, stl_len]
  have e := await_c (J := J) (ri := r6) (rj := rj) (rq := rq) (a := c) (I := I6) e2 (by omega)
  rw [bv_n e]
  refine ⟨_, _, rfl, ?_, ?_, ?_, fun f f1 f2 f3 => by rw [va_up_ne _ _ f2]; exact e6 f f1 f2 f3, fun t t1 t2 => by rw [va_up_ne _ _ t1]; exact e7 t t2⟩
  · rw [va_up_self, ← lw]; exact upN e2 (by omega)
  · rw [va_up_self, ← lw, stl_push, e4]
  · rw [va_up_ne _ _ (show (135 : Nat) ≠ 134 by decide), e5, ho]; omega
theorem rb_op {I : Nat → Int32} (hc : 25 ≤ (I 194).toInt ∧ (I 194).toInt ≤ 28) : g_X4_readBehindOne I J ri rj rq = (bnV (g_X4_settle (g_X4_rank (I 194)) (va_up I 137 0) J ri rj rq) fun (I6 : Nat → Int32) (_ : Nat → Int64) (r6 : Nat → Nat → Int32) (_ : Nat → Nat → Int64) (_ : Nat → Nat → Option Nat) => bnV (g_X4_await (I 194) I6 J r6 rj rq) fun (I7 : Nat → Int32) (_ : Nat → Int64) (r7 : Nat → Nat → Int32) (_ : Nat → Nat → Int64) (_ : Nat → Nat → Option Nat) => (((1 : Int32), I7, J, r7, rj, rq) : Int32 × vM)) := by
  have k1 : (25 : Int32).toInt = 25 := by decide
  have k2 : (28 : Int32).toInt = 28 := by decide
  rw [g_X4_readBehindOne_e]
  try simp only [↓ap1_n]
  rw [if_neg (show ¬ I 194 < 25 from fun q => by have := Int32.lt_iff_toInt_lt.mp q; omega), if_neg (show ¬ 28 < I 194 from fun q => by have := Int32.lt_iff_toInt_lt.mp q; omega)]
theorem rb_cmp {I : Nat → Int32} (hc : 19 ≤ (I 194).toInt ∧ (I 194).toInt ≤ 24) (hb : (I 136).toInt ≤ 0) (hm : I 138 = 0) : g_X4_readBehindOne I J ri rj rq = (bnV (g_X4_settle (g_X4_rank (I 194)) (va_up (va_up I 137 0) 138 1) J ri rj rq) fun (I6 : Nat → Int32) (_ : Nat → Int64) (r6 : Nat → Nat → Int32) (_ : Nat → Nat → Int64) (_ : Nat → Nat → Option Nat) => bnV (g_X4_await (I 194) I6 J r6 rj rq) fun (I7 : Nat → Int32) (_ : Nat → Int64) (r7 : Nat → Nat → Int32) (_ : Nat → Nat → Int64) (_ : Nat → Nat → Option Nat) => (((1 : Int32), I7, J, r7, rj, rq) : Int32 × vM)) := by
  have k1 : (25 : Int32).toInt = 25 := by decide
  have k2 : (19 : Int32).toInt = 19 := by decide
  have k0 : (0 : Int32).toInt = 0 := by decide
  rw [g_X4_readBehindOne_e]
  try simp only [↓ap1_n]
  rw [if_pos (show I 194 < 25 from Int32.lt_iff_toInt_lt.mpr (by omega)), va_up_ne _ _ (show (136 : Nat) ≠ 137 by decide), va_up_ne _ _ (show (138 : Nat) ≠ 137 by decide), if_pos (show I 136 ≤ 0 from Int32.le_iff_toInt_le.mpr (by omega)), if_pos hm, if_neg (show ¬ I 194 < 19 from fun q => by have := Int32.lt_iff_toInt_lt.mp q; omega)]
theorem rb_or {I : Nat → Int32} (hc : I 194 = 9) (hb : (I 136).toInt ≤ 0) (hm : I 138 ≠ 0) : g_X4_readBehindOne I J ri rj rq = (bnV (g_X4_settle 1 (va_up (va_up (va_up I 137 0) 138 0) 137 1) J ri rj rq) fun (I6 : Nat → Int32) (_ : Nat → Int64) (r6 : Nat → Nat → Int32) (_ : Nat → Nat → Int64) (_ : Nat → Nat → Option Nat) => bnV (g_X4_await 9 I6 J r6 rj rq) fun (I7 : Nat → Int32) (_ : Nat → Int64) (r7 : Nat → Nat → Int32) (_ : Nat → Nat → Int64) (_ : Nat → Nat → Option Nat) => (((1 : Int32), I7, J, r7, rj, rq) : Int32 × vM)) := by
  have k0 : (0 : Int32).toInt = 0 := by decide
  rw [g_X4_readBehindOne_e]
  try simp only [↓ap1_n]
  rw [hc, if_pos (show (9 : Int32) < 25 by decide), va_up_ne _ _ (show (136 : Nat) ≠ 137 by decide), va_up_ne _ _ (show (138 : Nat) ≠ 137 by decide), if_pos (show I 136 ≤ 0 from Int32.le_iff_toInt_le.mpr (by omega)), if_neg hm, if_pos (show (9 : Int32) = 9 from rfl), show g_X4_rank 9 = 1 from by decide]
theorem rb_and {I : Nat → Int32} (hc : I 194 = 10) (hb : (I 136).toInt ≤ 0) (hm : I 138 ≠ 0) : g_X4_readBehindOne I J ri rj rq = (bnV (g_X4_settle 2 (va_up (va_up (va_up I 137 0) 138 0) 137 1) J ri rj rq) fun (I6 : Nat → Int32) (_ : Nat → Int64) (r6 : Nat → Nat → Int32) (_ : Nat → Nat → Int64) (_ : Nat → Nat → Option Nat) => bnV (g_X4_await 10 I6 J r6 rj rq) fun (I7 : Nat → Int32) (_ : Nat → Int64) (r7 : Nat → Nat → Int32) (_ : Nat → Nat → Int64) (_ : Nat → Nat → Option Nat) => (((1 : Int32), I7, J, r7, rj, rq) : Int32 × vM)) := by
  have k0 : (0 : Int32).toInt = 0 := by decide
  rw [g_X4_readBehindOne_e]
  try simp only [↓ap1_n]
  rw [hc, if_pos (show (10 : Int32) < 25 by decide), va_up_ne _ _ (show (136 : Nat) ≠ 137 by decide), va_up_ne _ _ (show (138 : Nat) ≠ 137 by decide), if_pos (show I 136 ≤ 0 from Int32.le_iff_toInt_le.mpr (by omega)), if_neg hm, if_neg (show ¬ (10 : Int32) = 9 by decide), if_pos (show (10 : Int32) = 10 from rfl), show g_X4_rank 10 = 2 from by decide]
theorem rb_close {I : Nat → Int32} {w o b : Nat} (hc : I 194 = 30) (hb : (I 136).toInt = ((b + 1 : Nat) : Int)) (hb3 : b ≤ 100) (hw : (I 134).toInt = (w : Int)) (hw3 : w < 40) (ho : (I 135).toInt = (o : Int)) (hn : popN 1 (stl (ri 133) w) + 1 ≤ o) (h1 : o ≤ 100) {x : Int32} {L : List Int32} (hL : popR 1 (stl (ri 133) w) = x :: L) : ∃ (I' : Nat → Int32) (r' : Nat → Nat → Int32), g_X4_readBehindOne I J ri rj rq = (0, I', J, r', rj, rq) ∧ (I' 134).toInt = (L.length : Int) ∧ stl (r' 133) L.length = L ∧ (I' 135).toInt = ((o - popN 1 (stl (ri 133) w) - 1 : Nat) : Int) ∧ (I' 136).toInt = (b : Int) ∧ I' 137 = 0 ∧ (∀ f, f ≠ 132 → f ≠ 134 → f ≠ 135 → f ≠ 136 → f ≠ 137 → I' f = I f) ∧ ∀ t, t ≠ 259 → r' t = ri t := by
  have k0 : (0 : Int32).toInt = 0 := by decide
  obtain ⟨I6, r6, w', e1, e2, e3, e4, e5, e6, e7⟩ := settle_v (J := J) (ri := ri) (rj := rj) (rq := rq) (a := 1) (I := va_up I 137 0) (by rw [va_up_ne _ _ (show (134 : Nat) ≠ 137 by decide)]; exact hw) (by omega) (by rw [va_up_ne _ _ (show (135 : Nat) ≠ 137 by decide)]; omega) (by rw [va_up_ne _ _ (show (135 : Nat) ≠ 137 by decide)]; omega)
  have lw : w' = L.length + 1 := by
    have := congrArg List.length e4
    rw [stl_len, hL] at this
    exact this
  subst lw
  have e8 : stl (r6 133) L.length = L := by
    have e9 : r6 133 L.length :: stl (r6 133) L.length = x :: L := e4.trans hL
    exact (List.cons.inj e9).2
  have f6 : I6 136 = I 136 := (e6 136 (by decide) (by decide) (by decide)).trans (va_up_ne _ _ (by decide))
  have f5 : (I6 135).toInt = (o : Int) - popN 1 (stl (ri 133) w) := by rw [e5, va_up_ne _ _ (show (135 : Nat) ≠ 137 by decide), ho]
  have m4 : (I6 134 - 1).toInt = (L.length : Int) := by
    have := i_sub (x := I6 134) (y := 1) rfl (show (1 : Int32).toInt = 1 by decide) (by omega) (by omega)
    omega
  have m5 : (I6 135 - 1).toInt = ((o - popN 1 (stl (ri 133) w) - 1 : Nat) : Int) := by
    have := i_sub (x := I6 135) (y := 1) rfl (show (1 : Int32).toInt = 1 by decide) (by omega) (by omega)
    omega
  have m6 : (I6 136 - 1).toInt = (b : Int) := by
    have := i_sub (x := I6 136) (y := 1) rfl (show (1 : Int32).toInt = 1 by decide) (by rw [f6]; omega) (by rw [f6]; omega)
    rw [f6] at this ⊢
    omega
  have mx : (if 0 < I6 134 - 1 then I6 134 - 1 else 0).toInt = (L.length : Int) := by
    by_cases q : 0 < I6 134 - 1
    · rw [if_pos q]; exact m4
    · have q1 := Int32.le_iff_toInt_le.mp (Int32.not_lt.mp q)
      rw [if_neg q, k0]; omega
  rw [g_X4_readBehindOne_e]
  try simp only [↓ap1_n]
  rw [hc, if_neg (show ¬ (30 : Int32) < 25 by decide), if_pos (show (28 : Int32) < 30 by decide), va_up_ne _ _ (show (136 : Nat) ≠ 137 by decide), if_neg (show ¬ I 136 ≤ 0 from fun q => by have := Int32.le_iff_toInt_le.mp q; omega), if_pos (show (30 : Int32) = 30 from rfl), bv_n e1]
  try simp only [↓ap1_n]
  have w5 : va_up I6 136 (I6 136 - 1) 135 = I6 135 := va_up_ne _ _ (by decide)
  have w4 : ∀ v : Int32, va_up (va_up I6 136 (I6 136 - 1)) 135 v 134 = I6 134 := fun v => by rw [va_up_ne _ _ (show (134 : Nat) ≠ 135 by decide), va_up_ne _ _ (show (134 : Nat) ≠ 136 by decide)]
  rw [w5, w4]
  refine ⟨_, _, rfl, ?_, e8, ?_, ?_, ?_, fun f f1 f2 f3 f4 f5 => by rw [va_up_ne _ _ f2, va_up_ne _ _ f3, va_up_ne _ _ f4, e6 f f1 f2 f3, va_up_ne _ _ f5], e7⟩
  · rw [va_up_self]; exact mx
  · rw [va_up_ne _ _ (show (135 : Nat) ≠ 134 by decide), va_up_self]; exact m5
  · rw [va_up_ne _ _ (show (136 : Nat) ≠ 134 by decide), va_up_ne _ _ (show (136 : Nat) ≠ 135 by decide), va_up_self]; exact m6
  · rw [va_up_ne _ _ (show (137 : Nat) ≠ 134 by decide), va_up_ne _ _ (show (137 : Nat) ≠ 135 by decide), va_up_ne _ _ (show (137 : Nat) ≠ 136 by decide), e6 137 (by decide) (by decide) (by decide), va_up_self]
theorem rb_end {I : Nat → Int32} (hc : I 194 = 32) (hb : (I 136).toInt ≤ 0) (hm : I 138 ≠ 0) : ∃ (I' : Nat → Int32) (r' : Nat → Nat → Int32), g_X4_readBehindOne I J ri rj rq = (0, I', J, r', rj, rq) ∧ I' 139 = 1 ∧ ∀ f, f ≠ 132 → f ≠ 134 → f ≠ 135 → f ≠ 137 → f ≠ 139 → I' f = I f := by
  have k0 : (0 : Int32).toInt = 0 := by decide
  rw [g_X4_readBehindOne_e]
  try simp only [↓ap1_n]
  obtain ⟨I6, r6, e1, e2⟩ := settle_f (J := J) (ri := ri) (rj := rj) (rq := rq) (a := 1) (I := va_up I 137 0)
  rw [hc, if_neg (show ¬ (32 : Int32) < 25 by decide), if_pos (show (28 : Int32) < 32 by decide), va_up_ne _ _ (show (136 : Nat) ≠ 137 by decide), va_up_ne _ _ (show (138 : Nat) ≠ 137 by decide), if_pos (show I 136 ≤ 0 from Int32.le_iff_toInt_le.mpr (by omega)), if_neg hm, if_pos (show (32 : Int32) = 32 from rfl), bv_n e1]
  exact ⟨_, _, rfl, va_up_self _ _ _, fun f f1 f2 f3 f4 f5 => by rw [va_up_ne _ _ f5, e2 f f1 f2 f3, va_up_ne _ _ f4]⟩
theorem rb_no {I : Nat → Int32} (h0 : I 129 = 0) (h1 : ¬ (25 ≤ (I 194).toInt ∧ (I 194).toInt ≤ 28)) (h2 : (0 < (I 136).toInt ∧ I 194 ≠ 30) ∨ ((I 136).toInt ≤ 0 ∧ I 138 = 0 ∧ ¬ (19 ≤ (I 194).toInt ∧ (I 194).toInt ≤ 24)) ∨ ((I 136).toInt ≤ 0 ∧ I 138 ≠ 0 ∧ I 194 ≠ 9 ∧ I 194 ≠ 10 ∧ I 194 ≠ 32)) : ∃ (I' : Nat → Int32) (r' : Nat → Nat → Int32), g_X4_readBehindOne I J ri rj rq = (0, I', J, r', rj, rq) ∧ FLT 1 I I' := by
  have k25 : (25 : Int32).toInt = 25 := by decide
  have k28 : (28 : Int32).toInt = 28 := by decide
  have k19 : (19 : Int32).toInt = 19 := by decide
  have k0 : (0 : Int32).toInt = 0 := by decide
  have rf : g_X4_refuse 1 (va_up I 137 0) J ri rj rq = (va_up (va_up (va_up I 137 0) 129 1) 130 (I 195), J, ri, rj, rq) := by
    rw [refuse_c (by rw [va_up_ne _ _ (show (129 : Nat) ≠ 137 by decide)]; exact h0), va_up_ne I _ (show (195 : Nat) ≠ 137 by decide)]
  obtain ⟨I6, r6, e1, e2⟩ := settle_f (J := J) (ri := ri) (rj := rj) (rq := rq) (a := 1) (I := va_up (va_up (va_up I 137 0) 129 1) 130 (I 195))
  have f29 : I6 129 = 1 := by rw [e2 129 (by decide) (by decide) (by decide), va_up_ne _ _ (show (129 : Nat) ≠ 130 by decide), va_up_self]
  have f30 : I6 130 = I 195 := by rw [e2 130 (by decide) (by decide) (by decide), va_up_self]
  have z6 : va_up I 137 0 136 = I 136 := va_up_ne _ _ (by decide)
  have z8 : va_up I 137 0 138 = I 138 := va_up_ne _ _ (by decide)
  rw [g_X4_readBehindOne_e]
  try simp only [↓ap1_n]
  simp only [rf, bnV_mk, e1, ↓ap1_n, z6, z8]
  have up : ∀ (f : Nat) (v : Int32) (K : Nat → Int32), f ≠ 129 → f ≠ 130 → FLT 1 I K → FLT 1 I (va_up K f v) := fun f v K f1 f2 hK => ⟨by rw [va_up_ne _ _ (Ne.symm f1)]; exact hK.1, by rw [va_up_ne _ _ (Ne.symm f2)]; exact hK.2⟩
  have F : FLT 1 I I6 := ⟨f29, f30⟩
  have c28 : ¬ I 194 < 25 → 28 < I 194 := fun q => by
    have q1 := Int32.le_iff_toInt_le.mp (Int32.not_lt.mp q)
    exact Int32.lt_iff_toInt_lt.mpr (by omega)
  rcases h2 with ⟨a1, a2⟩ | ⟨a1, a2, a3⟩ | ⟨a1, a2, a3, a4, a5⟩
  · have nb : ¬ I 136 ≤ 0 := fun q => by have := Int32.le_iff_toInt_le.mp q; omega
    by_cases c : I 194 < 25
    · rw [if_pos c, if_neg nb]
      exact ⟨_, _, rfl, up _ _ _ (by decide) (by decide) (up _ _ _ (by decide) (by decide) (up _ _ _ (by decide) (by decide) F))⟩
    · rw [if_neg c, if_pos (c28 c), if_neg nb, if_neg a2]
      exact ⟨_, _, rfl, up _ _ _ (by decide) (by decide) (up _ _ _ (by decide) (by decide) (up _ _ _ (by decide) (by decide) F))⟩
  · have yb : I 136 ≤ 0 := Int32.le_iff_toInt_le.mpr (by omega)
    by_cases c : I 194 < 25
    · have c1 := Int32.lt_iff_toInt_lt.mp c
      rw [if_pos c, if_pos yb, if_pos a2, if_pos (show I 194 < 19 from Int32.lt_iff_toInt_lt.mpr (by omega))]
      exact ⟨_, _, rfl, up _ _ _ (by decide) (by decide) F⟩
    · rw [if_neg c, if_pos (c28 c), if_pos yb, if_pos a2]
      exact ⟨_, _, rfl, up _ _ _ (by decide) (by decide) F⟩
  · have yb : I 136 ≤ 0 := Int32.le_iff_toInt_le.mpr (by omega)
    by_cases c : I 194 < 25
    · rw [if_pos c, if_pos yb, if_neg a2, if_neg a3, if_neg a4]
      exact ⟨_, _, rfl, up _ _ _ (by decide) (by decide) F⟩
    · rw [if_neg c, if_pos (c28 c), if_pos yb, if_neg a2, if_neg a5]
      exact ⟨_, _, rfl, up _ _ _ (by decide) (by decide) F⟩
end PR4
