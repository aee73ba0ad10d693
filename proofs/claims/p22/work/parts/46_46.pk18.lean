/-! ===== pure: COUNCIL, both sides (behind pk15) ===== -/
section PK18
variable {I : Nat → Int32} {J : Nat → Int64} {ri : Nat → Nat → Int32} {rj : Nat → Nat → Int64} {rq : Nat → Nat → Option Nat}
variable {U : Nat → Int32} {V : Nat → Int64} {si : Nat → Nat → Int32} {sj : Nat → Nat → Int64} {sq : Nat → Nat → Option Nat}
variable {tI : Nat → Nat → Int32} {tR : Nat → Nat → Nat → Int32}
theorem hb_an (x y : Int64) (j : Nat) : hb (x &&& y) j = (hb x j && hb y j) := by
  unfold hb
  rw [Int64.toBitVec_and, BitVec.getLsbD_and]
theorem hb_1 : ∀ i, i < 64 → hb 1 i = decide (i = 0) := by decide +kernel
/-- bits of a set that is moved down, its sign behind it -/
theorem hb_ss {a0 : Int64} {x : Int32} {P i : Nat} (hx : x.toInt = (P : Int)) (hP : P < 64) (hi : i < 64) : hb (a0 >>> (x.toInt64 &&& 63)) i = if P + i < 64 then hb a0 (P + i) else hb a0 63 := by
  have ex : x = nI P := by
    have e := toN (x := x) (by omega)
    rw [at_n hx] at e
    exact e
  rw [ex]
  unfold hb
  rw [Int64.toBitVec_shiftRight]
  show (a0.toBitVec.sshiftRight (((nI P).toInt64 &&& 63).toBitVec.smod 64).toNat).getLsbD i = _
  rw [wb_c P hP, wb_tb, wb_sm P hP, BitVec.toNat_ofNat, Nat.mod_eq_of_lt (show P < 2 ^ 64 by omega), BitVec.getLsbD_sshiftRight, BitVec.msb_eq_getLsbD_last]
  simp [hi]
/-- bits of a set that is moved down, nothing behind it -/
theorem hb_us {a0 : Int64} {x : Int32} {P i : Nat} (hx : x.toInt = (P : Int)) (hP : P < 64) : hb ((a0.toUInt64 >>> (x.toInt64.toUInt64 &&& Int64.toUInt64 63)).toInt64) i = hb a0 (P + i) := by
  have hs : (x.toInt64.toUInt64 &&& Int64.toUInt64 63).toNat = P := by
    have e := wb_cu P hP
    have ex := toN (x := x) (by omega)
    rw [at_n hx] at ex
    rw [← ex] at e
    rw [e]
    exact u_tn (by omega)
  have e : (a0.toUInt64 >>> (x.toInt64.toUInt64 &&& Int64.toUInt64 63)).toInt64.toBitVec = a0.toBitVec >>> P := by
    apply BitVec.eq_of_toNat_eq
    show (a0.toUInt64 >>> (x.toInt64.toUInt64 &&& Int64.toUInt64 63)).toNat = _
    rw [UInt64.toNat_shiftRight, hs, Nat.mod_eq_of_lt hP, BitVec.toNat_ushiftRight]
    rfl
  unfold hb
  rw [e, BitVec.getLsbD_ushiftRight]
theorem hb_63 (a0 : Int64) : hb a0 63 = decide (a0.toInt < 0) := by
  have e : a0.toBitVec.msb = decide (a0.toBitVec.toInt < 0) := BitVec.msb_eq_toInt
  rw [BitVec.msb_eq_getLsbD_last] at e
  exact e
theorem hb_64 (a0 : Int64) {j : Nat} (h : 64 ≤ j) : hb a0 j = false := BitVec.getLsbD_of_ge _ _ h
/-- none from P on -/
theorem there_c {a0 : Int64} {x : Int32} {P : Nat} (hx : x.toInt = (P : Int)) (hP : P < 64) : lg_cmp ((a0.toUInt64 >>> (x.toInt64.toUInt64 &&& Int64.toUInt64 63)).toInt64) 0 = 0 ↔ ∀ j, P ≤ j → j < 64 → hb a0 j = false := by
  rw [cmp0]
  constructor
  · intro h j h1 h2
    have e := hb_us (a0 := a0) (i := j - P) hx hP
    rw [h, hb_0, show P + (j - P) = j by omega] at e
    exact e.symm
  · intro h
    refine hb_z (fun i hi => ?_)
    rw [hb_us hx hP]
    by_cases c : P + i < 64
    · exact h _ (by omega) c
    · exact hb_64 _ (by omega)
theorem there_m {a0 : Int64} {x : Int32} {P : Nat} (hx : x.toInt = (P : Int)) (hP : P < 64) : lg_cmp (a0 >>> (x.toInt64 &&& 63)) 0 = 0 ↔ ∀ j, P ≤ j → j < 64 → hb a0 j = false := by
  rw [cmp0]
  constructor
  · intro h j h1 h2
    have e := hb_ss (a0 := a0) (i := j - P) hx hP (by omega)
    rw [h, hb_0, if_pos (show P + (j - P) < 64 by omega), show P + (j - P) = j by omega] at e
    exact e.symm
  · intro h
    refine hb_z (fun i hi => ?_)
    rw [hb_ss hx hP hi]
    by_cases c : P + i < 64
    · rw [if_pos c]
      exact h _ (by omega) c
    · rw [if_neg c]
      exact h 63 (by omega) (by omega)
theorem neg_m {a0 : Int64} (h : hb a0 63 = false) : ¬ lg_cmp a0 0 < 0 := by
  rw [hb_63] at h
  have h0 := of_decide_eq_false h
  have z : (0 : Int64).toInt = 0 := by decide
  rw [lgv, z]
  by_cases c : 0 < a0.toInt
  · rw [if_pos c]; decide
  · rw [if_neg c, if_pos (show a0.toInt = 0 by omega)]; decide
/-- one bit asked -/
theorem bit_m {a0 : Int64} {x : Int32} {P : Nat} (hx : x.toInt = (P : Int)) (hP : P < 64) : lg_cmp (a0 >>> (x.toInt64 &&& 63) &&& 1) 0 = 0 ↔ hb a0 P = false := by
  have e := hb_ss (a0 := a0) (i := 0) hx hP (by decide)
  rw [if_pos (show P + 0 < 64 by omega), Nat.add_zero] at e
  rw [cmp0]
  constructor
  · intro h
    have e2 := hb_an (a0 >>> (x.toInt64 &&& 63)) 1 0
    rw [h, hb_0, hb_1 0 (by decide), e, decide_eq_true rfl, Bool.and_true] at e2
    exact e2.symm
  · intro h
    refine hb_z (fun i hi => ?_)
    rw [hb_an, hb_1 i hi]
    by_cases c : i = 0
    · rw [c, e, h, Bool.false_and]
    · rw [decide_eq_false c, Bool.and_false]
/-! counting -/
theorem cnF_s (f : Nat → Bool) (k : Nat) : cnF f 0 (k + 1) = cnF f 0 k + (if f k = true then 1 else 0) := by
  rw [cnF_add k 1 0, Nat.zero_add]
  rfl
theorem cnF_z {f : Nat → Bool} : ∀ (n p : Nat), (∀ i, i < n → f (p + i) = false) → cnF f p n = 0
  | 0, _, _ => rfl
  | n + 1, p, h => by
    have h0 : f p = false := h 0 (Nat.succ_pos _)
    show (if f p = true then 1 else 0) + cnF f (p + 1) n = 0
    rw [h0, cnF_z n (p + 1) (fun i hi => by rw [Nat.add_assoc, Nat.add_comm 1 i]; exact h (i + 1) (by omega))]
    rfl
theorem cnF_64 {f q : Nat → Bool} {N : Nat} (hN : N ≤ 64) (h1 : ∀ p, p < N → f p = q p) (h2 : ∀ p, N ≤ p → p < 64 → f p = false) : cnF f 0 64 = cnF q 0 N := by
  have e : (64 : Nat) = N + (64 - N) := by omega
  rw [e, cnF_add N (64 - N) 0, cnF_z (64 - N) (0 + N) (fun i hi => h2 _ (by omega) (by omega)), Nat.add_zero]
  exact cnF_cg N 0 0 (fun i hi => by rw [Nat.zero_add]; exact h1 i hi)
/-- who isn't dead, of the class -/
theorem nd_4 {N : Nat} (hI : (I 0).toInt = (N : Int)) (hN : N ≤ 40) : ∀ (n k : Nat) (x : Int32) (s : Int64), x.toInt = (k : Int) → 40 - k < n → k ≤ N → (∀ q, q < k → hb s q = decide (ri 5 q ≠ 300)) → (∀ q, k ≤ q → q < 64 → hb s q = false) → ∃ s' : Int64, g_X0_notDead_L4 I J ri rj rq n s x = (s', I, J, ri, rj, rq) ∧ (∀ q, q < N → hb s' q = decide (ri 5 q ≠ 300)) ∧ ∀ q, N ≤ q → q < 64 → hb s' q = false := by
  intro n
  induction n with
  | zero => intro k _ _ _ h; exact absurd h (Nat.not_lt_zero _)
  | succ n ih =>
    intro k x s hx hn hk hs hz
    rw [g_X0_notDead_L4_e]
    simp only [↓ap1_n, g_X0_notDead_K30]
    by_cases c : I 0 ≤ x
    · have c1 := (le_n hI hx).mp c
      have ek : N = k := by omega
      rw [if_pos c]
      exact ⟨s, rfl, by rw [ek]; exact hs, by rw [ek]; exact hz⟩
    · have c1 : ¬ N ≤ k := fun y => c ((le_n hI hx).mpr y)
      have nx := up_i hx (by omega)
      rw [if_neg c, at_n hx]
      by_cases d : ri 5 k = 300
      · rw [if_pos d]
        refine ih (k + 1) _ s nx (by omega) (by omega) (fun q hq => ?_) (fun q h1 h2 => hz q (by omega) h2)
        by_cases e : q = k
        · rw [e, hz k (Nat.le_refl _) (by omega), decide_eq_false (fun y => y d)]
        · exact hs q (by omega)
      · have hbo : ∀ j, j < 64 → hb (s ||| ((1 : Int64) <<< (x.toInt64 &&& 63))) j = (hb s j || decide (k = j)) := fun j hj => by rw [hb_or (by omega) (by omega) j hj, at_n hx]
        rw [if_neg d]
        refine ih (k + 1) _ _ nx (by omega) (by omega) (fun q hq => ?_) (fun q h1 h2 => ?_)
        · rw [hbo q (by omega)]
          by_cases e : q = k
          · rw [e, decide_eq_true rfl, Bool.or_true, decide_eq_true d]
          · rw [hs q (by omega), decide_eq_false (show ¬ k = q from fun y => e y.symm), Bool.or_false]
        · rw [hbo q h2, hz q (by omega) h2, decide_eq_false (show ¬ k = q by omega)]
          rfl
theorem notDead_v {N : Nat} (hI : (I 0).toInt = (N : Int)) (hN : N ≤ 40) : ∃ s' : Int64, g_X0_notDead I J ri rj rq = (s', I, J, ri, rj, rq) ∧ (∀ q, q < N → hb s' q = decide (ri 5 q ≠ 300)) ∧ ∀ q, N ≤ q → q < 64 → hb s' q = false := by
  have k0 : (0 : Int32).toInt = 0 := by decide
  rw [g_X0_notDead_e]
  exact nd_4 hI hN _ 0 0 0 k0 (by rw [k0]; omega) (Nat.zero_le _) (fun q hq => absurd hq (Nat.not_lt_zero _)) (fun q _ _ => hb_0 q)
/-- votes of the class -/
theorem cv_6 {a0 : Int64} {a1 : Int32} {N : Nat} (hI : (I 0).toInt = (N : Int)) (hN : N ≤ 40) : ∀ (n k : Nat) (x cnt : Int32), x.toInt = (k : Int) → 40 - k < n → k ≤ N → cnt.toInt = (cnF (fun p => hb a0 p && decide (ri 9 p = a1)) 0 k : Int) → ∃ z : Int32, g_X0_countVotes_L6 a0 a1 I J ri rj rq n cnt x = (z, I, J, ri, rj, rq) ∧ z.toInt = (cnF (fun p => hb a0 p && decide (ri 9 p = a1)) 0 N : Int) := by
  intro n
  induction n with
  | zero => intro k _ _ _ h; exact absurd h (Nat.not_lt_zero _)
  | succ n ih =>
    intro k x cnt hx hn hk hc
    rw [g_X0_countVotes_L6_e]
    simp only [↓ap1_n, g_X0_countVotes_K38]
    by_cases c : I 0 ≤ x
    · have c1 := (le_n hI hx).mp c
      have ek : N = k := by omega
      rw [if_pos c]
      exact ⟨cnt, rfl, by rw [ek]; exact hc⟩
    · have c1 : ¬ N ≤ k := fun y => c ((le_n hI hx).mpr y)
      have nx := up_i hx (by omega)
      have le := cnF_le (f := fun p => hb a0 p && decide (ri 9 p = a1)) k 0
      have cs := cnF_s (fun p => hb a0 p && decide (ri 9 p = a1)) k
      rw [if_neg c, hasBit_v (by omega) (by omega), at_n hx]
      by_cases b : hb a0 k = true
      · rw [if_pos b, if_neg (show ¬ (1 : Int32) = 0 by decide)]
        by_cases d : ri 9 k = a1
        · rw [if_pos d]
          refine ih (k + 1) _ _ nx (by omega) (by omega) ?_
          rw [b, decide_eq_true d, if_pos (show (true && true) = true from rfl)] at cs
          rw [up_i hc (by omega), cs]
        · rw [if_neg d]
          refine ih (k + 1) _ _ nx (by omega) (by omega) ?_
          rw [b, decide_eq_false d, if_neg (show ¬ (true && false) = true by decide)] at cs
          rw [hc, cs]
          rfl
      · have bf : hb a0 k = false := by simpa using b
        rw [if_neg b, if_pos (show (0 : Int32) = 0 from rfl)]
        refine ih (k + 1) _ _ nx (by omega) (by omega) ?_
        rw [bf, Bool.false_and, if_neg (show ¬ false = true by decide)] at cs
        rw [hc, cs]
        rfl
theorem countVotes_v {a0 : Int64} {a1 : Int32} {N : Nat} (hI : (I 0).toInt = (N : Int)) (hN : N ≤ 40) : ∃ z : Int32, g_X0_countVotes a0 a1 I J ri rj rq = (z, I, J, ri, rj, rq) ∧ z.toInt = (cnF (fun p => hb a0 p && decide (ri 9 p = a1)) 0 N : Int) := by
  have k0 : (0 : Int32).toInt = 0 := by decide
  rw [g_X0_countVotes_e]
  exact cv_6 hI hN _ 0 0 0 k0 (by rw [k0]; omega) (Nat.zero_le _) k0
/-! the reference's count -/
section CO
variable {a0 : Int64} {A : Nat → Int32} {B1 B3 : Nat → Bool}
/-- people who vote, those THERE, their votes -/
def qQ (A : Nat → Int32) (B1 B3 : Nat → Bool) (p : Nat) : Bool := decide (A (740 + 12 * p + 3) ≠ 300) && (B1 p && B3 p)
def qT (a0 : Int64) (A : Nat → Int32) (B1 B3 : Nat → Bool) (p : Nat) : Bool := qQ A B1 B3 p && hb a0 p
def qV (a0 : Int64) (A : Nat → Int32) (B1 B3 : Nat → Bool) (v : Int32) (p : Nat) : Bool := qT a0 A B1 B3 p && decide (A (740 + 12 * p + 8) = v)
def INC (a0 : Int64) (A : Nat → Int32) (B1 B3 : Nat → Bool) (k : Nat) (x1 x2 x3 : Int32) : Prop := x1.toInt = (cnF (qQ A B1 B3) 0 k : Int) ∧ x2.toInt = (cnF (qT a0 A B1 B3) 0 k : Int) ∧ x3.toInt = (cnF (qV a0 A B1 B3 1) 0 k : Int) - (cnF (qV a0 A B1 B3 0) 0 k : Int)
theorem inc_q {k : Nat} {x1 x2 x3 : Int32} (h : INC a0 A B1 B3 k x1 x2 x3) (hq : qQ A B1 B3 k = false) : INC a0 A B1 B3 (k + 1) x1 x2 x3 := by
  obtain ⟨h1, h2, h3⟩ := h
  have t : qT a0 A B1 B3 k = false := by unfold qT; rw [hq, Bool.false_and]
  have v : ∀ w, qV a0 A B1 B3 w k = false := fun w => by unfold qV; rw [t, Bool.false_and]
  refine ⟨?_, ?_, ?_⟩
  · rw [cnF_s, hq, if_neg (show ¬ false = true by decide), Nat.add_zero]; exact h1
  · rw [cnF_s, t, if_neg (show ¬ false = true by decide), Nat.add_zero]; exact h2
  · rw [cnF_s, cnF_s, v, v, if_neg (show ¬ false = true by decide), Nat.add_zero, Nat.add_zero]; exact h3
theorem inc_1 {k : Nat} {x1 x2 x3 : Int32} (hk : k ≤ 40) (h : INC a0 A B1 B3 k x1 x2 x3) (hq : qQ A B1 B3 k = true) (hb0 : hb a0 k = false) : INC a0 A B1 B3 (k + 1) (x1 + Int32.ofInt 1) x2 x3 := by
  obtain ⟨h1, h2, h3⟩ := h
  have t : qT a0 A B1 B3 k = false := by unfold qT; rw [hb0, Bool.and_false]
  have v : ∀ w, qV a0 A B1 B3 w k = false := fun w => by unfold qV; rw [t, Bool.false_and]
  have le := cnF_le (f := qQ A B1 B3) k 0
  refine ⟨?_, ?_, ?_⟩
  · rw [cnF_s, hq, if_pos rfl]; exact up_i h1 (by omega)
  · rw [cnF_s, t, if_neg (show ¬ false = true by decide), Nat.add_zero]; exact h2
  · rw [cnF_s, cnF_s, v, v, if_neg (show ¬ false = true by decide), Nat.add_zero, Nat.add_zero]; exact h3
theorem inc_2 {k : Nat} {x1 x2 x3 d : Int32} (hk : k ≤ 40) (h : INC a0 A B1 B3 k x1 x2 x3) (hq : qQ A B1 B3 k = true) (hb1 : hb a0 k = true) (hd : (A (740 + 12 * k + 8) = 1 ∧ d = 1) ∨ (A (740 + 12 * k + 8) = 0 ∧ d = -1) ∨ (A (740 + 12 * k + 8) ≠ 1 ∧ A (740 + 12 * k + 8) ≠ 0 ∧ d = 0)) : INC a0 A B1 B3 (k + 1) (x1 + Int32.ofInt 1) (x2 + Int32.ofInt 1) (x3 + d) := by
  obtain ⟨h1, h2, h3⟩ := h
  have t : qT a0 A B1 B3 k = true := by unfold qT; rw [hq, hb1]; rfl
  have v : ∀ w, qV a0 A B1 B3 w k = decide (A (740 + 12 * k + 8) = w) := fun w => by unfold qV; rw [t, Bool.true_and]
  have le1 := cnF_le (f := qQ A B1 B3) k 0
  have le2 := cnF_le (f := qT a0 A B1 B3) k 0
  have le3 := cnF_le (f := qV a0 A B1 B3 1) k 0
  have le4 := cnF_le (f := qV a0 A B1 B3 0) k 0
  refine ⟨?_, ?_, ?_⟩
  · rw [cnF_s, hq, if_pos rfl]; exact up_i h1 (by omega)
  · rw [cnF_s, t, if_pos rfl]; exact up_i h2 (by omega)
  · rw [cnF_s, cnF_s, v, v]
    rcases hd with ⟨e, f⟩ | ⟨e, f⟩ | ⟨e1, e2, f⟩
    · rw [f, e, decide_eq_true rfl, if_pos rfl, decide_eq_false (show ¬ (1 : Int32) = 0 by decide), if_neg (show ¬ false = true by decide), i_add h3 (show (1 : Int32).toInt = 1 by decide) (by omega) (by omega)]
      omega
    · rw [f, e, decide_eq_true (show (0 : Int32) = 0 from rfl), decide_eq_false (show ¬ (0 : Int32) = 1 by decide), if_pos rfl, if_neg (show ¬ false = true by decide), i_add h3 (show (-1 : Int32).toInt = -1 by decide) (by omega) (by omega)]
      omega
    · rw [f, decide_eq_false e1, decide_eq_false e2, if_neg (show ¬ false = true by decide), i_add h3 (show (0 : Int32).toInt = 0 by decide) (by omega) (by omega)]
      omega
theorem co_40 {y1 y2 yn : Int32} {N : Nat} (hy : y1.toInt = (N : Int)) (hN : N ≤ 40) (h1 : ∀ (y : Int32) (p : Nat), y.toInt = (p : Int) → p < 40 → ∀ (h : Nat → Int32) (g : Nat → Int64), ∃ (h' : Nat → Int32) (g' : Nat → Int64), g_X12_isFor 2 y y2 U V (va_up si 405 h) (va_up sj 404 g) sq = ((if B1 p = true then 1 else 0), U, V, va_up si 405 h', va_up sj 404 g', sq)) (h3 : ∀ (y : Int32) (p : Nat), y.toInt = (p : Int) → p < 40 → ∀ (h : Nat → Int32) (g : Nat → Int64), ∃ (h' : Nat → Int32) (g' : Nat → Int64), g_X12_isFor 4 y y2 U V (va_up si 405 h) (va_up sj 404 g) sq = ((if B3 p = true then 1 else 0), U, V, va_up si 405 h', va_up sj 404 g', sq)) (hn : ∀ (h : Nat → Int32) (g : Nat → Int64), g_X12_numberOf 7 y2 50 U V (va_up si 405 h) (va_up sj 404 g) sq = (yn, U, V, va_up si 405 h, va_up sj 404 g, sq)) : ∀ (n k : Nat) (x1 x2 x3 x4 : Int32) (h : Nat → Int32) (g : Nat → Int64), x4.toInt = (k : Int) → 40 - k < n → k ≤ N → INC a0 (si 384) B1 B3 k x1 x2 x3 → ∃ (X1 X2 X3 : Int32) (s' : Nat → Nat → Int32) (m' : Nat → Nat → Int64), INC a0 (si 384) B1 B3 N X1 X2 X3 ∧ g_X12_council_L40 a0 U V sq y1 y2 n x1 x2 x3 x4 (va_up si 405 h) (va_up sj 404 g) = ((if yn * X1 ≤ 100 * X2 then (if X3 ≤ 0 then 0 else 1) else 2), U, V, s', m', sq) := by
  have s384 : ∀ h : Nat → Int32, va_up si 405 h 384 = si 384 := fun h => va_up_ne _ _ (by decide)
  have n10 : ¬ (1 : Int32) = 0 := by decide
  intro n
  induction n with
  | zero => intro k _ _ _ _ _ _ _ h; exact absurd h (Nat.not_lt_zero _)
  | succ n ih =>
    intro k x1 x2 x3 x4 h g hx hk2 hk hi
    rw [g_X12_council_L40_e]
    by_cases c : y1 ≤ x4
    · have c1 := (le_n hy hx).mp c
      have ek : k = N := by omega
      subst ek
      rw [if_pos c]
      simp only [↓ap1_n]
      rw [bn_n (hn h g)]
      try simp only [↓ap1_n]
      refine ⟨x1, x2, x3, va_up si 405 h, va_up sj 404 g, hi, ?_⟩
      by_cases d : yn * x1 ≤ 100 * x2
      · by_cases e : x3 ≤ 0
        · rw [if_pos d, if_pos e, if_pos d, if_pos e]
        · rw [if_pos d, if_neg e, if_pos d, if_neg e]
      · rw [if_neg d, if_neg d]
    · have c1 : ¬ N ≤ k := fun y => c ((le_n hy hx).mpr y)
      have nx := up_i hx (by omega)
      rw [if_neg c, bn_n (pa3 hx (by omega)), s384]
      by_cases d : si 384 (740 + 12 * k + 3) = 300
      · have q : qQ (si 384) B1 B3 k = false := by unfold qQ; rw [decide_eq_false (fun y => y d), Bool.false_and]
        rw [if_pos d, g_X12_council_K146_e]
        simp only [↓ap1_n]
        exact ih (k + 1) x1 x2 x3 _ h g nx (by omega) (by omega) (inc_q hi q)
      · obtain ⟨h', g', e1⟩ := h1 x4 k hx (by omega) h g
        rw [if_neg d, bn_n e1]
        by_cases b1 : B1 k = true
        · rw [if_pos b1, if_neg n10]
          obtain ⟨h2, g2, e3⟩ := h3 x4 k hx (by omega) h' g'
          rw [bn_n e3]
          by_cases b3 : B3 k = true
          · have q : qQ (si 384) B1 B3 k = true := by unfold qQ; rw [decide_eq_true d, b1, b3]; rfl
            rw [if_pos b3, if_neg n10]
            simp only [↓ap1_n]
            by_cases t : hb a0 k = false
            · rw [if_pos ((bit_m hx (by omega)).mpr t), g_X12_council_K146_e]
              simp only [↓ap1_n]
              exact ih (k + 1) _ x2 x3 _ h2 g2 nx (by omega) (by omega) (inc_1 (by omega) hi q t)
            · have tt : hb a0 k = true := by simpa using t
              rw [if_neg (fun y => t ((bit_m hx (by omega)).mp y)), bn_n (pa8 hx (by omega)), s384]
              by_cases v1 : si 384 (740 + 12 * k + 8) = 1
              · rw [if_pos v1, g_X12_council_K143_3_e]
                simp only [↓ap1_n]
                rw [g_X12_council_K146_e]
                simp only [↓ap1_n]
                exact ih (k + 1) _ _ _ _ h2 g2 nx (by omega) (by omega) (inc_2 (by omega) hi q tt (Or.inl ⟨v1, rfl⟩))
              · rw [if_neg v1, bn_n (pa8 hx (by omega)), s384]
                by_cases v0 : si 384 (740 + 12 * k + 8) = 0
                · rw [if_pos v0, g_X12_council_K143_2_e]
                  simp only [↓ap1_n]
                  rw [g_X12_council_K146_e]
                  simp only [↓ap1_n]
                  exact ih (k + 1) _ _ _ _ h2 g2 nx (by omega) (by omega) (inc_2 (by omega) hi q tt (Or.inr (Or.inl ⟨v0, rfl⟩)))
                · rw [if_neg v0, g_X12_council_K143_e]
                  simp only [↓ap1_n]
                  rw [g_X12_council_K146_e]
                  simp only [↓ap1_n]
                  exact ih (k + 1) _ _ _ _ h2 g2 nx (by omega) (by omega) (inc_2 (by omega) hi q tt (Or.inr (Or.inr ⟨v1, v0, rfl⟩)))
          · have q : qQ (si 384) B1 B3 k = false := by unfold qQ; rw [show B3 k = false by simpa using b3, Bool.and_false, Bool.and_false]
            rw [if_neg b3, if_pos (show (0 : Int32) = 0 from rfl), g_X12_council_K146_e]
            simp only [↓ap1_n]
            exact ih (k + 1) x1 x2 x3 _ h2 g2 nx (by omega) (by omega) (inc_q hi q)
        · have q : qQ (si 384) B1 B3 k = false := by unfold qQ; rw [show B1 k = false by simpa using b1, Bool.false_and, Bool.and_false]
          rw [if_neg b1, if_pos (show (0 : Int32) = 0 from rfl), g_X12_council_K146_e]
          simp only [↓ap1_n]
          exact ih (k + 1) x1 x2 x3 _ h' g' nx (by omega) (by omega) (inc_q hi q)
end CO
/-- COUNCIL -/
theorem council_v {a0 : Int64} (h : RSL I ri (si 384)) (hT : TXS I rq tI tR (si 384)) (hF : FCS I ri (si 384)) (hK : FLK I ri (si 384)) : (g_X11_council tI tR a0 I J ri rj rq).1 = (g_X12_council a0 U V si sj sq).1 := by
  have k0 : (0 : Int32).toInt = 0 := by decide
  have k1 : (1 : Int32).toInt = 1 := by decide
  have k3 : (3 : Int32).toInt = 3 := by decide
  have k6 : (6 : Int32).toInt = 6 := by decide
  have s1 : srC 1 = 2 := by decide
  have s3 : srC 3 = 4 := by decide
  have s6 : srC 6 = 7 := by decide
  have hK' := hK
  obtain ⟨i0, ⟨n0, n40⟩, kp⟩ := hK'
  have i0n : (I 0).toInt = (si 384 5).toInt := congrArg Int32.toInt i0
  obtain ⟨N, hN⟩ : ∃ N : Nat, (I 0).toInt = (N : Int) := ⟨(I 0).toInt.toNat, by omega⟩
  have hN40 : N ≤ 40 := by omega
  have nI0 := at_n hN
  have ec : I 320 = si 384 0 := h.2.2.1.1
  have bc := h.1.1
  have hm : vb9 (I 320) := ⟨by omega, by omega⟩
  rw [g_X11_council_e, g_X12_council_e]
  simp only [↓ap1_n]
  rw [← i0, ← ec]
  by_cases C : ∀ j, N ≤ j → j < 64 → hb a0 j = false
  · rw [if_pos ((there_c hN (by omega)).mpr C), if_neg (neg_m (C 63 (by omega) (by decide))), if_pos ((there_m hN (by omega)).mpr C), g_X10_decide_e]
    obtain ⟨nd, d1, d2, d3⟩ := notDead_v (I := I) (J := J) (ri := ri) (rj := rj) (rq := rq) hN hN40
    obtain ⟨w1, B1, R1, a1, a2, a3, a4, a5⟩ := who_v (I := I) (J := J) (ri := ri) (rj := rj) (rq := rq) (U := U) (V := V) (si := si) (sj := sj) (sq := sq) (tI := tI) (tR := tR) (a := 1) (mo := I 320) (asked := nd) (by omega) (by omega) hm hT hF hK
    have hF1 : FCS I R1 (si 384) := FCS_cg hF rfl (fun t ht j _ => by rw [a2 t (by simp only [List.mem_cons, List.not_mem_nil, or_false] at ht; omega) (by simp only [List.mem_cons, List.not_mem_nil, or_false] at ht; omega)]) rfl (fun _ _ _ => rfl) (Int.le_refl _)
    have hK1 : FLK I R1 (si 384) := FLK_cg hK rfl (fun t ht p _ => by rw [a2 t (by simp only [List.mem_cons, List.not_mem_nil, or_false] at ht; omega) (by simp only [List.mem_cons, List.not_mem_nil, or_false] at ht; omega)]) rfl (fun _ _ _ _ => rfl)
    obtain ⟨w3, B3, R3, c1, c2, c3, c4, c5⟩ := who_v (I := I) (J := J) (ri := R1) (rj := rj) (rq := rq) (U := U) (V := V) (si := si) (sj := sj) (sq := sq) (tI := tI) (tR := tR) (a := 3) (mo := I 320) (asked := nd) (by omega) (by omega) hm hT hF1 hK1
    have hR3 : ∀ t, t ≠ 102 → t ≠ 103 → R3 t = ri t := fun t x y => (c2 t x y).trans (a2 t x y)
    have hF3 : FCS I R3 (si 384) := FCS_cg hF rfl (fun t ht j _ => by rw [hR3 t (by simp only [List.mem_cons, List.not_mem_nil, or_false] at ht; omega) (by simp only [List.mem_cons, List.not_mem_nil, or_false] at ht; omega)]) rfl (fun _ _ _ => rfl) (Int.le_refl _)
    have s384 : ∀ h : Nat → Int32, va_up si 405 h 384 = si 384 := fun h => va_up_ne _ _ (by decide)
    obtain ⟨yn, y1, _⟩ := num_in (I := I) (J := J) (ri := R3) (rj := rj) (rq := rq) (U := U) (V := V) (si := si) (sj := sj) (sq := sq) (tI := tI) (tR := tR) (a := 6) (mo := I 320) (d := 50) (by omega) (by omega) hT hF3
    have hn : ∀ (h : Nat → Int32) (g : Nat → Int64), g_X12_numberOf 7 (I 320) 50 U V (va_up si 405 h) (va_up sj 404 g) sq = (yn, U, V, va_up si 405 h, va_up sj 404 g, sq) := fun h g => by
      obtain ⟨y, z1, z2⟩ := num_in (I := I) (J := J) (ri := R3) (rj := rj) (rq := rq) (U := U) (V := V) (si := va_up si 405 h) (sj := va_up sj 404 g) (sq := sq) (tI := tI) (tR := tR) (a := 6) (mo := I 320) (d := 50) (by omega) (by omega) (by rw [s384]; exact hT) (by rw [s384]; exact hF3)
      have e : y = yn := (Prod.mk.inj (z1.symm.trans y1)).1
      rw [e, s6] at z2
      exact z2
    rw [s1] at a5
    rw [s3] at c5
    obtain ⟨X1, X2, X3, s', m', ⟨x1, x2, x3⟩, e⟩ := co_40 (a0 := a0) (B1 := B1) (B3 := B3) (U := U) (V := V) (si := si) (sj := sj) (sq := sq) (y2 := I 320) hN hN40 a5 c5 hn ((40 - ((0 : Int32)).toInt).toNat + 1) 0 0 0 0 0 (si 405) (sj 404) k0 (by rw [k0]; omega) (Nat.zero_le _) ⟨k0, k0, k0⟩
    rw [up_id, up_id] at e
    rw [e, bn_n d1]
    try simp only [↓ap1_n]
    rw [bn_n a1, bn_n c1]
    try simp only [↓ap1_n]
    rw [g_X3_councilIn_e, bn_n y1]
    repeat rw [bnI_mk]
    try simp only [↓ap1_n]
    try rw [bnI_mk]
    -- the set of those who vote
    have hw : ∀ p, p < N → hb (w1 &&& w3) p = qQ (si 384) B1 B3 p := fun p hp => by
      obtain ⟨⟨_, _, _, p4, _⟩, _⟩ := kp p (by omega)
      rw [hb_an, a3 p (by omega), c3 p (by omega), d2 p hp, p4]
      unfold qQ
      cases decide (si 384 (740 + 12 * p + 3) ≠ 300) <;> cases B1 p <;> cases B3 p <;> rfl
    have hz : ∀ p, N ≤ p → p < 64 → hb (w1 &&& w3) p = false := fun p h1 h2 => by
      rw [hb_an]
      cases q : hb w1 p with
      | false => rfl
      | true =>
        have := a4 p h2 q
        rw [d3 p h1 h2] at this
        cases this
    have ht : ∀ p, p < N → hb (w1 &&& w3 &&& a0) p = qT a0 (si 384) B1 B3 p := fun p hp => by
      rw [hb_an, hw p hp]
      rfl
    have hz2 : ∀ p, N ≤ p → p < 64 → hb (w1 &&& w3 &&& a0) p = false := fun p h1 h2 => by rw [hb_an, hz p h1 h2, Bool.false_and]
    have e6 : g_J13_bitCount_95d88 (w1 &&& w3 &&& a0) = X2 := Int32.toInt_inj.mp (by rw [pl_v, x2, cnF_64 (by omega) ht hz2])
    have e9 : g_J13_bitCount_95d88 (w1 &&& w3) = X1 := Int32.toInt_inj.mp (by rw [pl_v, x1, cnF_64 (by omega) hw hz])
    rw [e6, e9]
    have r9 : ∀ p, p < 40 → R3 9 p = si 384 (740 + 12 * p + 8) := fun p hp => by
      rw [hR3 9 (by decide) (by decide)]
      exact (kp p hp).1.2.2.2.2.2
    have cv : ∀ v : Int32, cnF (fun p => hb (w1 &&& w3 &&& a0) p && decide (R3 9 p = v)) 0 N = cnF (qV a0 (si 384) B1 B3 v) 0 N := fun v => cnF_cg N 0 0 (fun i hi => by
      rw [Nat.zero_add]
      show (hb (w1 &&& w3 &&& a0) i && decide (R3 9 i = v)) = (qT a0 (si 384) B1 B3 i && decide (si 384 (740 + 12 * i + 8) = v))
      rw [ht i hi, r9 i (by omega)])
    obtain ⟨z1, f1, f2⟩ := countVotes_v (I := I) (J := J) (ri := R3) (rj := rj) (rq := rq) (a0 := w1 &&& w3 &&& a0) (a1 := 1) hN hN40
    obtain ⟨z0, f3, f4⟩ := countVotes_v (I := I) (J := J) (ri := R3) (rj := rj) (rq := rq) (a0 := w1 &&& w3 &&& a0) (a1 := 0) hN hN40
    rw [cv] at f2 f4
    by_cases d : yn * X1 ≤ 100 * X2
    · rw [if_pos d, if_pos d, f1, f3]
      dsimp only
      by_cases v : z1 ≤ z0
      · have v1 := Int32.le_iff_toInt_le.mp v
        rw [if_pos v, if_pos (show X3 ≤ 0 from Int32.le_iff_toInt_le.mpr (by rw [k0]; omega))]
      · have v1 : ¬ z1.toInt ≤ z0.toInt := fun y => v (Int32.le_iff_toInt_le.mpr y)
        rw [if_neg v, if_neg (show ¬ X3 ≤ 0 from fun y => by
          have := Int32.le_iff_toInt_le.mp y
          rw [k0] at this
          omega)]
    · rw [if_neg d, if_neg d]
  · rw [if_neg (fun y => C ((there_c hN (by omega)).mp y))]
    by_cases q : lg_cmp a0 0 < 0
    · rw [if_pos q]
      rfl
    · rw [if_neg q, if_neg (fun y => C ((there_m hN (by omega)).mp y))]
      rfl
end PK18
