/-! ===== pure: AREA of the class (behind pf) ===== -/
section PG
variable {I : Nat → Int32} {J : Nat → Int64} {rj : Nat → Nat → Int64} {rq : Nat → Nat → Option Nat}
/-- a place (i, k) is not farther than R from CELL c -/
def NRg (r : Nat → Nat → Int32) (R c k i : Nat) : Prop := ad i (r 71 c).toInt.toNat * ad i (r 71 c).toInt.toNat + ad k (r 72 c).toInt.toNat * ad k (r 72 c).toInt.toNat ≤ R * R
theorem ca_65 {r : Nat → Nat → Int32} : ∀ (n : Nat) (acc x : Int32) (s k : Nat), acc.toInt = (s : Int) → x.toInt = (k : Int) → k ≤ 32 → s ≤ 32 * k → 32 - k < n → ∃ y : Int32, g_X2_countArea_L65 I J rj rq r n acc x = (y, I, J, r, rj, rq) ∧ y.toInt = ((s + smF (fun k => cnF (b3 (r 82 k)) 0 32) k (32 - k) : Nat) : Int) := by
  have k32 : (32 : Int32).toInt = ((32 : Nat) : Int) := by decide
  intro n
  induction n with
  | zero => intro _ _ _ _ _ _ _ _ h; exact absurd h (Nat.not_lt_zero _)
  | succ n ih =>
    intro acc x s k ha hx hk hs hn
    rw [g_X2_countArea_L65_e]
    try simp only [↓ap1_n]
    by_cases q : (32 : Int32) ≤ x
    · have q1 := (le_n k32 hx).mp q
      have e : 32 - k = 0 := by omega
      rw [if_pos q, e]
      exact ⟨acc, rfl, ha⟩
    · have q1 : ¬ 32 ≤ k := fun z => q ((le_n k32 hx).mpr z)
      rw [if_neg q, at_n hx]
      have l := cnF_le (f := b3 (r 82 k)) 32 0
      have s1 := i_add ha (pc_v (r 82 k)) (by omega) (by omega)
      obtain ⟨y, e1, e2⟩ := ih (acc + g_J6_bitCount_0f7a4 (r 82 k)) (x + Int32.ofInt 1) (s + cnF (b3 (r 82 k)) 0 32) (k + 1) (s1.trans (by omega)) (up_i hx (by omega)) (by omega) (by omega) (by omega)
      refine ⟨y, e1, e2.trans ?_⟩
      have e : 32 - k = 32 - (k + 1) + 1 := by omega
      rw [e]
      show ((s + cnF (b3 (r 82 k)) 0 32 + smF (fun k => cnF (b3 (r 82 k)) 0 32) (k + 1) (32 - (k + 1)) : Nat) : Int) = ((s + (cnF (b3 (r 82 k)) 0 32 + smF (fun k => cnF (b3 (r 82 k)) 0 32) (k + 1) (32 - (k + 1))) : Nat) : Int)
      rw [Nat.add_assoc]
theorem ca_16 {a0 : Int64} {a1 : Int32} {R N : Nat} (hR : a1.toInt = (R : Int)) (hR2 : R ≤ 20) (hN : (I 65).toInt = (N : Int)) (hN2 : N ≤ 40) : ∀ (n : Nat) (x : Int32) (c : Nat) (r : Nat → Nat → Int32), x.toInt = (c : Int) → c ≤ N → N - c < n → (∀ i, i ≤ R → ∃ w : Nat, (r 83 i).toInt = (w : Int) ∧ w ≤ 20 ∧ GW R i w) → (∀ c, c < N → (0 ≤ (r 71 c).toInt ∧ (r 71 c).toInt ≤ 31) ∧ (0 ≤ (r 72 c).toInt ∧ (r 72 c).toInt ≤ 31)) → ∃ (y : Int32) (r' : Nat → Nat → Int32), g_X2_countArea_L16 a0 a1 I J rj rq n x r = (y, I, J, r', rj, rq) ∧ (∀ t, t ≠ 82 → r' t = r t) ∧ y.toInt = ((smF (fun k => cnF (b3 (r' 82 k)) 0 32) 0 32 : Nat) : Int) ∧ ∀ k i, k < 32 → i < 32 → (b3 (r' 82 k) i = true ↔ b3 (r 82 k) i = true ∨ ∃ c', c ≤ c' ∧ c' < N ∧ hb a0 c' = true ∧ NRg r R c' k i) := by
  have k0 : (0 : Int32).toInt = 0 := by decide
  intro n
  induction n with
  | zero => intro _ _ _ _ _ h; exact absurd h (Nat.not_lt_zero _)
  | succ n ih =>
    intro x c r hx hc hn hW hP
    rw [g_X2_countArea_L16_e]
    try simp only [↓ap1_n, g_X2_countArea_K53]
    by_cases q : I 65 ≤ x
    · have q1 := (le_n hN hx).mp q
      rw [if_pos q]
      obtain ⟨y, e1, e2⟩ := ca_65 (I := I) (J := J) (rj := rj) (rq := rq) (r := r) ((32 - (0 : Int32).toInt).toNat + 1) 0 0 0 0 k0 k0 (by omega) (by omega) (by rw [k0]; omega)
      refine ⟨y, r, e1, fun _ _ => rfl, e2.trans (by rw [Nat.zero_add]), fun k i _ _ => ⟨fun h => Or.inl h, fun h => ?_⟩⟩
      rcases h with h | ⟨c', h1, h2, _⟩
      · exact h
      · exact absurd h2 (by omega)
    · have q1 : ¬ N ≤ c := fun z => q ((le_n hN hx).mpr z)
      rw [if_neg q, hasBit_v (c := x) (by omega) (by omega), at_n hx]
      by_cases b : hb a0 c = true
      · rw [if_pos b, if_neg (show ¬ (1 : Int32) = 0 by decide)]
        obtain ⟨⟨p1, p2⟩, ⟨p3, p4⟩⟩ := hP c (by omega)
        obtain ⟨r1, e1, e2, e3⟩ := mark_v (I := I) (J := J) (rj := rj) (rq := rq) (a0 := r 71 c) (a1 := r 72 c) (X := (r 71 c).toInt.toNat) (Y := (r 72 c).toInt.toNat) (by omega) (by omega) (by omega) (by omega) hR hR2 hW
        rw [bv_n e1]
        have n83 := e2 83 (by decide)
        have n71 := e2 71 (by decide)
        have n72 := e2 72 (by decide)
        obtain ⟨y, r', f1, f2, f3, f4⟩ := ih (x + Int32.ofInt 1) (c + 1) r1 (up_i hx (by omega)) (by omega) (by omega) (by rw [n83]; exact hW) (by rw [n71, n72]; exact hP)
        refine ⟨y, r', f1, fun t h => (f2 t h).trans (e2 t h), f3, fun k i hk hi => ?_⟩
        have nr : ∀ c', NRg r1 R c' k i ↔ NRg r R c' k i := fun c' => by unfold NRg; rw [n71, n72]
        rw [f4 k i hk hi, e3 k i hk hi, Bool.or_eq_true, decide_eq_true_iff]
        constructor
        · rintro ((h | h) | ⟨c', h1, h2, h3, h4⟩)
          · exact Or.inl h
          · exact Or.inr ⟨c, Nat.le_refl _, by omega, b, h⟩
          · exact Or.inr ⟨c', by omega, h2, h3, (nr c').mp h4⟩
        · rintro (h | ⟨c', h1, h2, h3, h4⟩)
          · exact Or.inl (Or.inl h)
          · by_cases z : c' = c
            · rw [z] at h4
              exact Or.inl (Or.inr h4)
            · exact Or.inr ⟨c', by omega, h2, h3, (nr c').mpr h4⟩
      · rw [if_neg b, if_pos (show (0 : Int32) = 0 from rfl)]
        obtain ⟨y, r', f1, f2, f3, f4⟩ := ih (x + Int32.ofInt 1) (c + 1) r (up_i hx (by omega)) (by omega) (by omega) hW hP
        refine ⟨y, r', f1, f2, f3, fun k i hk hi => ?_⟩
        rw [f4 k i hk hi]
        constructor
        · rintro (h | ⟨c', h1, h2, h3, h4⟩)
          · exact Or.inl h
          · exact Or.inr ⟨c', by omega, h2, h3, h4⟩
        · rintro (h | ⟨c', h1, h2, h3, h4⟩)
          · exact Or.inl h
          · by_cases z : c' = c
            · rw [z] at h3
              exact absurd h3 b
            · exact Or.inr ⟨c', by omega, h2, h3, h4⟩
/-- how many places AREA has -/
theorem area_c {a0 : Int64} {a1 : Int32} {R N : Nat} (hR : a1.toInt = (R : Int)) (hR2 : R ≤ 20) (hN : (I 65).toInt = (N : Int)) (hN2 : N ≤ 40) {r : Nat → Nat → Int32} (hP : ∀ c, c < N → (0 ≤ (r 71 c).toInt ∧ (r 71 c).toInt ≤ 31) ∧ (0 ≤ (r 72 c).toInt ∧ (r 72 c).toInt ≤ 31)) (f : Nat → Bool) (hf : ∀ k i, k < 32 → i < 32 → (f (32 * k + i) = true ↔ ∃ c, c < N ∧ hb a0 c = true ∧ NRg r R c k i)) : ∃ (y : Int32) (r' : Nat → Nat → Int32), g_X2_countArea a0 a1 I J r rj rq = (y, I, J, r', rj, rq) ∧ (∀ t, t ≠ 82 → t ≠ 83 → r' t = r t) ∧ y.toInt = (cnF f 0 1024 : Int) := by
  have k0 : (0 : Int32).toInt = 0 := by decide
  rw [g_X2_countArea_e]
  simp only [↓ap1_n]
  obtain ⟨r1, e1, e2, e3⟩ := measure_v (I := I) (J := J) (rj := rj) (rq := rq) hR hR2 (r := va_up r 82 (fil 0 32 (r 82)))
  rw [bv_n e1]
  have s : ∀ t, t ≠ 82 → t ≠ 83 → r1 t = r t := fun t h1 h2 => (e2 t h2).trans (va_up_ne _ _ h1)
  obtain ⟨y, r', f1, f2, f3, f4⟩ := ca_16 (I := I) (J := J) (rj := rj) (rq := rq) (a0 := a0) hR hR2 hN hN2 ((40 - (0 : Int32).toInt).toNat + 1) 0 0 r1 k0 (Nat.zero_le _) (by rw [k0]; omega) e3 (by rw [s 71 (by decide) (by decide), s 72 (by decide) (by decide)]; exact hP)
  refine ⟨y, r', f1, fun t h1 h2 => (f2 t h1).trans (s t h1 h2), ?_⟩
  have z : ∀ k i, k < 32 → i < 32 → b3 (r1 82 k) i = false := fun k i hk hi => by
    rw [e2 82 (by decide), va_up_self]
    unfold fil
    rw [if_pos hk]
    exact b_0 i
  have g := cnF_32 (f := f) 32 0
  rw [f3]
  have h : smF (fun k => cnF (b3 (r' 82 k)) 0 32) 0 32 = smF (fun k => cnF f (32 * k) 32) 0 32 := smF_cg 32 0 (fun k _ hk => cnF_cg 32 0 (32 * k) (fun i hi => by
    rw [Nat.zero_add]
    have h1 := f4 k i (by omega) hi
    have h2 := hf k i (by omega) hi
    rw [z k i (by omega) hi] at h1
    have n71 := s 71 (by decide) (by decide)
    have n72 := s 72 (by decide) (by decide)
    rw [Bool.eq_iff_iff, h1, h2]
    constructor
    · rintro (w | ⟨c, _, w1, w2, w3⟩)
      · exact absurd w (by decide)
      · exact ⟨c, w1, w2, by unfold NRg at w3 ⊢; rw [n71, n72] at w3; exact w3⟩
    · rintro ⟨c, w1, w2, w3⟩
      exact Or.inr ⟨c, Nat.zero_le _, w1, w2, by unfold NRg at w3 ⊢; rw [n71, n72]; exact w3⟩))
  rw [h, ← g]
end PG
