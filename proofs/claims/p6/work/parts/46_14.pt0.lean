/-! ===== pure: the calls of the tape and the TEXTS' counts, both sides ===== -/
section PT0
variable {I : Nat → Int32} {J : Nat → Int64} {ri : Nat → Nat → Int32} {rj : Nat → Nat → Int64} {rq : Nat → Nat → Option Nat}
variable {U : Nat → Int32} {V : Nat → Int64} {si : Nat → Nat → Int32} {sj : Nat → Nat → Int64} {sq : Nat → Nat → Option Nat}
theorem b_ushr (n : Nat) (hn : n < 32) (a : Int32) {s : UInt32} (hs : s.toNat = n) (i : Nat) : b3 (a.toUInt32 >>> s).toInt32 i = b3 a (n + i) := by
  have e : (a.toUInt32 >>> s).toInt32.toBitVec = a.toBitVec >>> n := by
    apply BitVec.eq_of_toNat_eq
    show (a.toUInt32 >>> s).toNat = _
    rw [UInt32.toNat_shiftRight, hs, Nat.mod_eq_of_lt hn, BitVec.toNat_ushiftRight]
    rfl
  unfold b3
  rw [e, BitVec.getLsbD_ushiftRight]
theorem hi_255 : ∀ i, i < 32 → ¬ i < 8 → b3 (255 : Int32) i = false := by decide +kernel
/-- the byte at a shift, both ways of shifting -/
theorem shr_8 {k : Nat} (hk : k ≤ 24) (a : Int32) {s : UInt32} (hs : s.toNat = k) : (a.toUInt32 >>> s).toInt32 &&& 255 = (a >>> (nI k &&& 31)) &&& 255 := by
  refine b_ext (fun i hi => ?_)
  rw [b_and, b_and, b_ushr k (by omega) a hs, b_sshr k (by omega) a hi]
  by_cases h : i < 8
  · rw [if_pos (by omega)]
  · rw [hi_255 i hi h, Bool.and_false, Bool.and_false]
theorem nn_255 (z : Int32) : 0 ≤ (z &&& 255).toInt := by
  have h : (z &&& 255).toBitVec.msb = false := by
    rw [BitVec.msb_eq_getLsbD_last]
    show b3 (z &&& 255) 31 = false
    rw [b_and, hi_255 31 (by decide) (by decide)]
    exact Bool.and_false _
  show 0 ≤ (z &&& 255).toBitVec.toInt
  rw [BitVec.toInt_eq_toNat_of_msb h]
  exact Int.natCast_nonneg _
/-- the tape and the latest FAULT, both sides alike -/
def RDR (I : Nat → Int32) (r : Nat → Nat → Int32) (U : Nat → Int32) (s : Nat → Nat → Int32) : Prop := (0 ≤ (I 193).toInt ∧ (I 193).toInt ≤ 300) ∧ I 193 = U 388 ∧ r 192 = s 387 ∧ (∀ j, 0 ≤ (r 192 j).toInt) ∧ I 129 = U 389 ∧ I 130 = U 390
theorem RDR_cg {I1 U1 : Nat → Int32} {r1 s1 : Nat → Nat → Int32} (h : RDR I ri U si) (e1 : I1 193 = I 193) (e2 : I1 129 = I 129) (e3 : I1 130 = I 130) (e4 : r1 192 = ri 192) (e5 : U1 388 = U 388) (e6 : U1 389 = U 389) (e7 : U1 390 = U 390) (e8 : s1 387 = si 387) : RDR I1 r1 U1 s1 := by
  unfold RDR
  rw [e1, e2, e3, e4, e5, e6, e7, e8]
  exact h
/-- how many TEXTS and FORCES -/
def TCR (I : Nat → Int32) (A : Nat → Int32) : Prop := I 96 = A 6 ∧ I 98 = A 7
theorem TCR_cg {I1 A A1 : Nat → Int32} (h : TCR I A) (e1 : I1 96 = I 96) (e2 : I1 98 = I 98) (e3 : A1 6 = A 6) (e4 : A1 7 = A 7) : TCR I1 A1 := by
  unfold TCR
  rw [e1, e2, e3, e4]
  exact h
/-- the same answer, and the tapes stand alike -/
def FV (b c : Int32 × vM) : Prop := b.1 = c.1 ∧ RDR b.2.1 b.2.2.2.1 c.2.1 c.2.2.2.1
def TV (b c : Int32 × vM) : Prop := b.1 = c.1 ∧ TCR b.2.1 (c.2.2.2.1 384)
/-- four bytes more, from a shift on -/
theorem four_L (a : Int32) : ∀ (k n m : Nat) (x : Int32) (I : Nat → Int32) (r : Nat → Nat → Int32) (U : Nat → Int32) (s : Nat → Nat → Int32), x.toInt = 8 * (k : Int) - 8 → k ≤ 4 → k < n → k < m → RDR I r U s → (I 193).toInt + k ≤ 300 → ∃ (I1 : Nat → Int32) (r1 : Nat → Nat → Int32) (U1 : Nat → Int32) (s1 : Nat → Nat → Int32), g_X6_append_L3 a J rj rq n x I r = (I1, J, r1, rj, rq) ∧ g_X12_four_L3 a V sj sq m x U s = (U1, V, s1, sj, sq) ∧ RDR I1 r1 U1 s1 ∧ (I1 193).toInt = (I 193).toInt + k := by
  intro k
  have k0 : (0 : Int32).toInt = 0 := by decide
  have k300 : (300 : Int32).toInt = 300 := by decide
  have k8 : (Int32.ofInt (-8)).toInt = -8 := by decide
  induction k with
  | zero =>
    intro n m x I r U s hx _ hn hm hR _
    cases n with
    | zero => exact absurd hn (Nat.not_lt_zero _)
    | succ n =>
    cases m with
    | zero => exact absurd hm (Nat.not_lt_zero _)
    | succ m =>
    have c : x < 0 := Int32.lt_iff_toInt_lt.mpr (by omega)
    rw [g_X6_append_L3_e, g_X12_four_L3_e, if_pos c, if_pos c]
    exact ⟨I, r, U, s, rfl, rfl, hR, by omega⟩
  | succ k ih =>
    intro n m x I r U s hx h4 hn hm hR hl
    cases n with
    | zero => exact absurd hn (Nat.not_lt_zero _)
    | succ n =>
    cases m with
    | zero => exact absurd hm (Nat.not_lt_zero _)
    | succ m =>
    have c : ¬ x < 0 := fun q => by have := Int32.lt_iff_toInt_lt.mp q; omega
    have d : ¬ (300 : Int32) ≤ I 193 := fun q => by have := Int32.le_iff_toInt_le.mp q; omega
    rw [g_X6_append_L3_e, g_X12_four_L3_e, if_neg c, if_neg c]
    try simp only [↓ap1_n]
    rw [if_neg d]
    obtain ⟨⟨l0, l1⟩, e1, e2, e3, e4, e5⟩ := hR
    have hxn : x = nI (8 * k) := by
      have : k = 0 ∨ k = 1 ∨ k = 2 ∨ k = 3 := by omega
      rcases this with e | e | e | e <;> subst e <;> exact Int32.toInt_inj.mp (hx.trans (by decide))
    have hs : (x.toUInt32 &&& Int32.toUInt32 31).toNat = 8 * k := by
      rw [hxn]
      exact (by decide +kernel : ∀ k, k < 4 → ((nI (8 * k)).toUInt32 &&& Int32.toUInt32 31).toNat = 8 * k) k (by omega)
    have hv : (a.toUInt32 >>> (x.toUInt32 &&& Int32.toUInt32 31)).toInt32 &&& 255 = a >>> (x &&& 31) &&& 255 := by
      rw [shr_8 (by omega) a hs, hxn]
    rw [hv, ← e1]
    have hy : (I 193 + 1).toInt = (I 193).toInt + 1 := t1_one (by omega) (by omega)
    have hz : (x + Int32.ofInt (-8)).toInt = 8 * (k : Int) - 8 := (i_add hx k8 (by clear hy; omega) (by clear hy; omega)).trans (by clear hy; omega)
    have hR2 : RDR (va_up I 193 (I 193 + 1)) (va_up r 192 (upd (r 192) (I 193).toNatClampNeg (a >>> (x &&& 31) &&& 255))) (va_up U 388 (I 193 + 1)) (va_up s 387 (upd (s 387) (I 193).toNatClampNeg (a >>> (x &&& 31) &&& 255))) := by
      refine ⟨?_, ?_, ?_, fun j => ?_, ?_, ?_⟩
      · rw [va_up_self, hy]; exact ⟨by omega, by omega⟩
      · rw [va_up_self, va_up_self]
      · rw [va_up_self, va_up_self, e2]
      · rw [va_up_self]
        unfold upd
        split
        · exact nn_255 _
        · exact e3 j
      · rw [va_up_ne _ _ (show (129 : Nat) ≠ 193 by decide), va_up_ne _ _ (show (389 : Nat) ≠ 388 by decide)]; exact e4
      · rw [va_up_ne _ _ (show (130 : Nat) ≠ 193 by decide), va_up_ne _ _ (show (390 : Nat) ≠ 388 by decide)]; exact e5
    generalize I 193 + 1 = y at hy hR2 ⊢
    generalize x + Int32.ofInt (-8) = z at hz ⊢
    have hy2 : (va_up I 193 y 193).toInt = (I 193).toInt + 1 := by rw [va_up_self]; exact hy
    obtain ⟨I1, r1, U1, s1, f1, f2, f3, f4⟩ := ih n m z _ _ _ _ hz (by omega) (by omega) (by omega) hR2 (by rw [hy2]; omega)
    exact ⟨I1, r1, U1, s1, f1, f2, f3, by rw [f4, hy2]; omega⟩
theorem four_v (a : Int32) (h : RDR I ri U si) (hl : (I 193).toInt + 4 ≤ 300) : ∃ (I1 : Nat → Int32) (r1 : Nat → Nat → Int32) (U1 : Nat → Int32) (s1 : Nat → Nat → Int32), g_X6_append a I J ri rj rq = (I1, J, r1, rj, rq) ∧ g_X12_four a U V si sj sq = (U1, V, s1, sj, sq) ∧ RDR I1 r1 U1 s1 ∧ (I1 193).toInt = (I 193).toInt + 4 := by
  rw [g_X6_append_e, g_X12_four_e]
  exact four_L a 4 _ _ 24 I ri U si (by decide) (Nat.le_refl 4) (by decide) (by decide) h hl
theorem feed_FV {a0 a1 a2 a3 a4 : Int32} (h : RDR I ri U si) : FV (g_X11_feed a0 a1 a2 a3 a4 I J ri rj rq) (g_X12_feed a0 a1 a2 a3 a4 U V si sj sq) := by
  have k20 : (20 : Int32).toInt = 20 := by decide
  have k280 : (280 : Int32).toInt = 280 := by decide
  have k300 : (300 : Int32).toInt = 300 := by decide
  have hl := h.1
  have e := h.2.1
  rw [g_X11_feed_e, g_X12_feed_e]
  try simp only [↓ap1_n]
  rw [← e]
  have s20 : (I 193 + 20).toInt = (I 193).toInt + 20 := i_add rfl k20 (by omega) (by omega)
  by_cases c : I 193 ≤ 280
  · have c1 := Int32.le_iff_toInt_le.mp c
    rw [if_pos c, if_pos (Int32.le_iff_toInt_le.mpr (by omega))]
    obtain ⟨I1, r1, U1, s1, f1, g1, h1, n1⟩ := four_v (J := J) (rj := rj) (rq := rq) (V := V) (sj := sj) (sq := sq) a0 h (by omega)
    rw [bv_n f1, bv_n g1]
    obtain ⟨I2, r2, U2, s2, f2, g2, h2, n2⟩ := four_v (J := J) (rj := rj) (rq := rq) (V := V) (sj := sj) (sq := sq) a1 h1 (by omega)
    rw [bv_n f2, bv_n g2]
    obtain ⟨I3, r3, U3, s3, f3, g3, h3, n3⟩ := four_v (J := J) (rj := rj) (rq := rq) (V := V) (sj := sj) (sq := sq) a2 h2 (by omega)
    rw [bv_n f3, bv_n g3]
    obtain ⟨I4, r4, U4, s4, f4, g4, h4, n4⟩ := four_v (J := J) (rj := rj) (rq := rq) (V := V) (sj := sj) (sq := sq) a3 h3 (by omega)
    rw [bv_n f4, bv_n g4]
    obtain ⟨I5, r5, U5, s5, f5, g5, h5, n5⟩ := four_v (J := J) (rj := rj) (rq := rq) (V := V) (sj := sj) (sq := sq) a4 h4 (by omega)
    rw [bv_n f5, bv_n g5]
    exact ⟨h5.2.1, h5⟩
  · rw [if_neg c, if_neg (fun q => c (Int32.le_iff_toInt_le.mpr (by have := Int32.le_iff_toInt_le.mp q; omega)))]
    exact ⟨rfl, h⟩
theorem end_FV {a0 : Int32} (h : RDR I ri U si) : FV (g_X11_end a0 I J ri rj rq) (g_X12_end a0 U V si sj sq) := by
  have h' := h
  obtain ⟨⟨l0, l1⟩, e1, e2, e3, e4, e5⟩ := h'
  rw [g_X11_end_e, g_X12_end_e]
  simp only [↓ap1_n, between_b, isIn_b]
  rw [← e1]
  by_cases c : bt a0 0 (I 193) = 0
  · rw [if_pos c, if_pos c]
    exact ⟨rfl, h⟩
  · rw [if_neg c, if_neg c]
    have b := bt_n c
    have k0 : (0 : Int32).toInt = 0 := by decide
    refine ⟨rfl, ?_, ?_, e2, e3, ?_, ?_⟩
    · show 0 ≤ (va_up I 193 a0 193).toInt ∧ (va_up I 193 a0 193).toInt ≤ 300
      rw [va_up_self]; exact ⟨by omega, by omega⟩
    · show va_up I 193 a0 193 = va_up U 388 a0 388
      rw [va_up_self, va_up_self]
    · show va_up I 193 a0 129 = va_up U 388 a0 389
      rw [va_up_ne _ _ (show (129 : Nat) ≠ 193 by decide), va_up_ne _ _ (show (389 : Nat) ≠ 388 by decide)]; exact e4
    · show va_up I 193 a0 130 = va_up U 388 a0 390
      rw [va_up_ne _ _ (show (130 : Nat) ≠ 193 by decide), va_up_ne _ _ (show (390 : Nat) ≠ 388 by decide)]; exact e5
theorem fault_v {a0 : Int32} (h : RDR I ri U si) : (g_X11_fault a0 I J ri rj rq).1 = (g_X12_fault a0 U V si sj sq).1 := by
  rw [g_X11_fault_e, g_X12_fault_e]
  try simp only [↓ap1_n]
  by_cases c : a0 = 0
  · rw [if_pos c, if_pos c]
    exact h.2.2.2.2.1
  · rw [if_neg c, if_neg c]
    by_cases d : a0 = 1
    · rw [if_pos d, if_pos d]
      exact h.2.2.2.2.2
    · rw [if_neg d, if_neg d]
theorem force_TV {a0 a1 a2 : Int32} (h : TCR I (si 384)) (hc : I 320 = si 384 0) (h0 : 0 ≤ (I 320).toInt) (h7 : 0 ≤ (si 384 7).toInt ∧ (si 384 7).toInt ≤ 30) : TV (g_X11_force a0 a1 a2 I J ri rj rq) (g_X12_force a0 a1 a2 U V si sj sq) := by
  obtain ⟨e6, e7⟩ := h
  have k0 : (0 : Int32).toInt = 0 := by decide
  have k30 : (30 : Int32).toInt = 30 := by decide
  have k599 : (599 : Int32).toInt = 599 := by decide
  have n7 : (7 : Int32).toNatClampNeg = 7 := by decide
  rw [g_X11_force_e, g_X12_force_e]
  simp only [↓ap1_n, between_b, isIn_b, isMonth_c, g_X11_force_K58, g_X11_force_K59_2, g_X11_force_K76_2, g_X12_force_K56, n7]
  rw [← e6, ← hc]
  have no : TV ((-1, I, J, ri, rj, rq) : Int32 × vM) (-1, U, V, si, sj, sq) := ⟨rfl, e6, e7⟩
  by_cases c0 : bt a0 0 (I 96 - 1) = 0
  · rw [if_pos c0, if_pos c0]; exact no
  · rw [if_neg c0, if_neg c0]
    by_cases c1 : bt a1 (I 320) 599 = 0
    · rw [if_pos c1]
      by_cases d1 : bt a1 0 599 = 0
      · rw [if_pos d1]; exact no
      · have b1 := bt_n d1
        rw [if_neg d1]
        by_cases d2 : bt a2 0 599 = 0
        · rw [if_pos d2]; exact no
        · rw [if_neg d2]
          by_cases d3 : a1 < I 320
          · rw [if_pos d3]; exact no
          · exact absurd c1 (by
              have := bt_y (a := a1) (b := I 320) (c := 599) (by
                have : ¬ a1.toInt < (I 320).toInt := fun q => d3 (Int32.lt_iff_toInt_lt.mpr q)
                omega) b1.2
              rw [this]; decide)
    · have b1 := bt_n c1
      rw [if_neg c1, if_neg (show ¬ bt a1 0 599 = 0 by rw [bt_y (a := a1) (b := 0) (c := 599) (by omega) b1.2]; decide)]
      have d3 : ¬ a1 < I 320 := fun q => by have := Int32.lt_iff_toInt_lt.mp q; omega
      by_cases c2 : bt a2 a1 599 = 0
      · rw [if_pos c2]
        by_cases d2 : bt a2 0 599 = 0
        · rw [if_pos d2]; exact no
        · have b2 := bt_n d2
          rw [if_neg d2, if_neg d3]
          by_cases d4 : a2 < a1
          · rw [if_pos d4]; exact no
          · exact absurd c2 (by
              have := bt_y (a := a2) (b := a1) (c := 599) (by
                have : ¬ a2.toInt < a1.toInt := fun q => d4 (Int32.lt_iff_toInt_lt.mpr q)
                omega) b2.2
              rw [this]; decide)
      · have b2 := bt_n c2
        rw [if_neg c2, if_neg (show ¬ bt a2 0 599 = 0 by rw [bt_y (a := a2) (b := 0) (c := 599) (by omega) b2.2]; decide), if_neg d3, if_neg (show ¬ a2 < a1 from fun q => by have := Int32.lt_iff_toInt_lt.mp q; omega)]
        rw [g_X11_force_K59_e]
        try simp only [↓ap1_n]
        by_cases c3 : si 384 7 = 30
        · have c3' := congrArg Int32.toInt c3
          rw [if_pos c3, if_neg (show ¬ I 98 < 30 from fun q => by have := Int32.lt_iff_toInt_lt.mp q; rw [e7] at this; omega)]
          exact no
        · have l3 : (si 384 7).toInt < 30 := by
            have : (si 384 7).toInt ≠ 30 := fun q => c3 (Int32.toInt_inj.mp (q.trans k30.symm))
            omega
          have c4 : I 98 < 30 := Int32.lt_iff_toInt_lt.mpr (by rw [e7]; omega)
          rw [if_neg c3, if_pos c4, g_X3_addForce_e]
          try simp only [↓ap1_n]
          rw [if_pos c4]
          have m1 : ((4 : Int32) * si 384 7).toInt = 4 * (si 384 7).toInt := i_mul (show (4 : Int32).toInt = 4 by decide) rfl (by omega) (by omega)
          have m2 : ((2220 : Int32) + 4 * si 384 7).toInt = 2220 + 4 * (si 384 7).toInt := i_add (show (2220 : Int32).toInt = 2220 by decide) m1 (by omega) (by omega)
          have m3 : ((2220 : Int32) + 4 * si 384 7 + 1).toInt = 2220 + 4 * (si 384 7).toInt + 1 := i_add m2 (show (1 : Int32).toInt = 1 by decide) (by omega) (by omega)
          have m4 : ((2220 : Int32) + 4 * si 384 7 + 2).toInt = 2220 + 4 * (si 384 7).toInt + 2 := i_add m2 (show (2 : Int32).toInt = 2 by decide) (by omega) (by omega)
          have z2 := clampE ((2220 : Int32) + 4 * si 384 7)
          have z3 := clampE ((2220 : Int32) + 4 * si 384 7 + 1)
          have z4 := clampE ((2220 : Int32) + 4 * si 384 7 + 2)
          rw [bn_n rfl]
          refine ⟨?_, ?_, ?_⟩
          · show va_up I 98 (I 98 + 1) 98 - 1 = si 384 7 + 1 - 1
            rw [va_up_self, e7]
          · dsimp only
            rw [va_up_ne _ _ (show (96 : Nat) ≠ 98 by decide), va_up_self, upd_n _ _ (show (6 : Nat) ≠ 7 by decide), va_up_self, upd_n _ _ (by omega), va_up_self, upd_n _ _ (by omega), va_up_self, upd_n _ _ (by omega)]
            exact e6
          · dsimp only
            rw [va_up_self, va_up_self, upd_s, e7]
/-! the tape stands when a TEXT is read -/
theorem rc_f {I : Nat → Int32} {r : Nat → Nat → Int32} : ∃ (I2 : Nat → Int32) (r2 : Nat → Nat → Int32), g_X4_readClause I J r rj rq = (I2, J, r2, rj, rq) ∧ r2 192 = r 192 := by
  have fx : FRG id w_X4_readClause (I, J, r, rj, rq) (g_X4_readClause I J r rj rq) := g_X4_readClause_f
  generalize g_X4_readClause I J r rj rq = A at fx ⊢
  obtain ⟨I2, J2, r2, l2, q2⟩ := A
  have fv : FRV w_X4_readClause (I, J, r, rj, rq) (I2, J2, r2, l2, q2) := fx
  have e1 : J2 = J := fe_J fv
  have e3 : l2 = rj := fe_rj fv
  have e4 : q2 = rq := fe_rq fv
  subst e1 e3 e4
  exact ⟨I2, r2, rfl, fv.2.2.1 192 (by decide)⟩
theorem rr_L : ∀ (N : Nat) (x : Int32) (I : Nat → Int32) (r : Nat → Nat → Int32), (g_X4_read_rest_L42 J rj rq N x I r).2.2.1 192 = r 192 := by
  intro N
  induction N with
  | zero => intro x I r; rfl
  | succ N ih =>
    intro x I r
    rw [g_X4_read_rest_L42_e]
    try simp only [↓ap1_n]
    by_cases c : (300 : Int32) < x
    · rw [if_pos c]
    · rw [if_neg c]
      by_cases d : I 129 = 0
      · rw [if_pos d]
        by_cases g : I 194 = 33
        · rw [if_pos g]
        · rw [if_neg g]
          obtain ⟨I2, r2, e1, e2⟩ := rc_f (J := J) (rj := rj) (rq := rq) (I := I) (r := r)
          rw [bv_n e1]
          obtain ⟨I3, f1, _, _⟩ := adv_f (J := J) (rj := rj) (rq := rq) (I := I2) (r := r2)
          rw [bv_n f1, ih, e2]
      · rw [if_neg d]
theorem rr_192 {I : Nat → Int32} {r : Nat → Nat → Int32} : (g_X4_read_rest I J r rj rq).2.2.1 192 = r 192 := by
  rw [g_X4_read_rest_e]
  try simp only [↓ap1_n]
  rw [g_X6_rewind_e]
  try simp only [↓ap1_n]
  rw [bv_n (show ((va_up (va_up I 132 0) 197 0, J, r, rj, rq) : vM) = (va_up (va_up I 132 0) 197 0, J, r, rj, rq) from rfl)]
  obtain ⟨I3, f1, _, _⟩ := adv_f (J := J) (rj := rj) (rq := rq) (I := va_up (va_up I 132 0) 197 0) (r := r)
  rw [bv_n f1]
  exact rr_L _ _ _ _
/-- text(), where there are 10 -/
theorem text_10 (h : (si 384 6).toInt = 10) : g_X12_text U V si sj sq = (-1, U, V, si, sj, sq) := by
  have n6 : (6 : Int32).toNatClampNeg = 6 := by decide
  rw [g_X12_text_e]
  simp only [↓ap1_n, n6]
  rw [if_pos (Int32.toInt_inj.mp (h.trans (show (10 : Int32).toInt = 10 by decide).symm))]
/-- text() of the reference, out of what reading the class's tape comes to -/
theorem text_v {I0 : Nat → Int32} {J0 : Nat → Int64} {r0 : Nat → Nat → Int32} {l0 : Nat → Nat → Int64} {q0 : Nat → Nat → Option Nat} (h : RDR I ri U si) (h401 : 0 ≤ (U 401).toInt) (h6 : 0 ≤ (si 384 6).toInt ∧ (si 384 6).toInt ≤ 9) (i129 : I0 129 = 0) (i130 : I0 130 = -1) (i256 : I0 256 = 0) (i193 : I0 193 = I 193) (i192 : r0 192 = ri 192) : ∃ (Iz : Nat → Int32) (rz : Nat → Nat → Int32) (U1 : Nat → Int32) (V1 : Nat → Int64) (s1 : Nat → Nat → Int32), g_X4_read_rest I0 J0 r0 l0 q0 = (Iz, J0, rz, l0, q0) ∧ rz 192 = ri 192 ∧ g_X12_text U V si sj sq = (if Iz 129 = 0 then si 384 6 else -1, U1, V1, s1, sj, sq) ∧ U1 388 = 0 ∧ U1 389 = Iz 129 ∧ U1 390 = Iz 130 ∧ (Iz 129 = 0 → s1 384 6 = si 384 6 + 1) ∧ s1 387 = si 387 := by
  obtain ⟨⟨l0', l1⟩, e1, e2, e3, e4, e5⟩ := h
  have n6 : (6 : Int32).toNatClampNeg = 6 := by decide
  have z1 := clampE (I 193)
  have z6 := clampE (si 384 6)
  have k10 : (10 : Int32).toInt = 10 := by decide
  have hs := text_sim (J := J0) (rj := l0) (rq := q0) (mj := sj) (mq := sq) (n := (I 193).toNatClampNeg) (T := ri 192) (by omega) (fun j _ => e3 j) (I := I0) (r := r0) (by rw [i193]; omega) i192 i129 i256 (I' := U) (J' := V) (r' := si) (by rw [← e1]; omega) e2.symm h401 (t := (si 384 6).toNatClampNeg) (by omega) (by omega)
  obtain ⟨f, I1, J1, r1, If, rf, x1, x2, x3⟩ := hs
  have hrow : rf 192 = ri 192 := by
    have := rr_192 (J := J0) (rj := l0) (rq := q0) (I := I0) (r := r0)
    rw [x2] at this
    exact this.trans i192
  have hfr : FRG Prod.snd w_X12_text (U, V, si, sj, sq) (g_X12_text U V si sj sq) := g_X12_text_f
  have g0 : ¬ si 384 6 = 10 := fun q => by have := congrArg Int32.toInt q; omega
  have red : g_X12_text U V si sj sq = if f = 0 then (si 384 6 + 1 - 1, va_up (va_up (va_up I1 389 f) 390 (-1)) 388 0, J1, va_up (va_up r1 384 (upd (r1 384) (I1 396).toNatClampNeg (I1 397))) 384 (upd (va_up r1 384 (upd (r1 384) (I1 396).toNatClampNeg (I1 397)) 384) 6 (si 384 6 + 1)), sj, sq) else (-1, va_up (va_up (va_up I1 389 f) 390 (I1 392)) 388 0, J1, r1, sj, sq) := by
    rw [g_X12_text_e]
    simp only [↓ap1_n, n6]
    rw [if_neg g0, bn_n x1]
    rw [show (va_up I1 389 f) 389 = f from va_up_self _ _ _]
    by_cases c : f = 0
    · rw [if_pos c, if_pos c, va_up_ne _ _ (show (396 : Nat) ≠ 388 by decide), va_up_ne _ _ (show (396 : Nat) ≠ 390 by decide), va_up_ne _ _ (show (396 : Nat) ≠ 389 by decide), va_up_ne _ _ (show (397 : Nat) ≠ 388 by decide), va_up_ne _ _ (show (397 : Nat) ≠ 390 by decide), va_up_ne _ _ (show (397 : Nat) ≠ 389 by decide)]
    · rw [if_neg c, if_neg c, va_up_ne _ _ (show (392 : Nat) ≠ 389 by decide)]
  have hu : si 384 6 + 1 - 1 = si 384 6 := by first | exact Int32.add_sub_cancel _ _ | exact Int32.add_sub_cancel | (apply Int32.toBitVec_inj.mp; simp)
  rcases x3 with ⟨y, y1, y2⟩ | ⟨y, y1, y2, y3, y4⟩
  · rw [if_neg y] at red
    rw [red] at hfr
    refine ⟨If, rf, va_up (va_up (va_up I1 389 f) 390 (I1 392)) 388 0, J1, r1, x2, hrow, ?_, ?_, ?_, ?_, fun q => absurd (y1.symm.trans q) y, ?_⟩
    · rw [red, y1, if_neg y]
    · exact va_up_self _ _ _
    · rw [va_up_ne _ _ (show (389 : Nat) ≠ 388 by decide), va_up_ne _ _ (show (389 : Nat) ≠ 390 by decide), va_up_self]
      exact y1.symm
    · rw [va_up_ne _ _ (show (390 : Nat) ≠ 388 by decide), va_up_self]
      exact y2.symm
    · exact hfr.2.2.1 387 (by decide)
  · subst y
    rw [if_pos rfl, hu] at red
    rw [red] at hfr
    refine ⟨If, rf, va_up (va_up (va_up I1 389 0) 390 (-1)) 388 0, J1, va_up (va_up r1 384 (upd (r1 384) (I1 396).toNatClampNeg (I1 397))) 384 (upd (va_up r1 384 (upd (r1 384) (I1 396).toNatClampNeg (I1 397)) 384) 6 (si 384 6 + 1)), x2, hrow, ?_, ?_, ?_, ?_, fun _ => ?_, ?_⟩
    · rw [red, y1, if_pos rfl]
    · exact va_up_self _ _ _
    · rw [va_up_ne _ _ (show (389 : Nat) ≠ 388 by decide), va_up_ne _ _ (show (389 : Nat) ≠ 390 by decide), va_up_self]
      exact y1.symm
    · rw [va_up_ne _ _ (show (390 : Nat) ≠ 388 by decide), va_up_self, y2, i130]
    · rw [va_up_self, upd_s]
    · exact hfr.2.2.1 387 (by decide)
end PT0
