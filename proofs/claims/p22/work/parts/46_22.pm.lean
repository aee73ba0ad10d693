/-! ===== pure: AREA of the reference (behind pf) ===== -/
section PM
variable {U : Nat → Int32} {V : Nat → Int64} {si : Nat → Nat → Int32} {sj : Nat → Nat → Int64} {sq : Nat → Nat → Option Nat}
theorem ca_m2 {x : Int32} {c : Nat} (hx : x.toInt = (c : Int)) (hc : c ≤ 40) : g_X12_cellAt_c2 x U V si sj sq = (si 384 (100 + 16 * c + 2), U, V, si, sj, sq) := by
  rw [g_X12_cellAt_c2_e]
  simp only [↓ap1_n]
  have m1 := i_mul (show (16 : Int32).toInt = 16 by decide) hx (by omega) (by omega)
  have m2 := i_add (show (100 : Int32).toInt = 100 by decide) m1 (by omega) (by omega)
  have m3 := i_add m2 (show (2 : Int32).toInt = 2 by decide) (by omega) (by omega)
  rw [at_n (p := 100 + 16 * c + 2) (m3.trans (by omega))]
theorem ca_m3 {x : Int32} {c : Nat} (hx : x.toInt = (c : Int)) (hc : c ≤ 40) : g_X12_cellAt_c3 x U V si sj sq = (si 384 (100 + 16 * c + 3), U, V, si, sj, sq) := by
  rw [g_X12_cellAt_c3_e]
  simp only [↓ap1_n]
  have m1 := i_mul (show (16 : Int32).toInt = 16 by decide) hx (by omega) (by omega)
  have m2 := i_add (show (100 : Int32).toInt = 100 by decide) m1 (by omega) (by omega)
  have m3 := i_add m2 (show (3 : Int32).toInt = 3 by decide) (by omega) (by omega)
  rw [at_n (p := 100 + 16 * c + 3) (m3.trans (by omega))]
theorem sq_d {x : Int32} {a b : Nat} (h : x.toInt = (a : Int) - (b : Int)) (ha : a ≤ 100) (hb : b ≤ 100) : (x * x).toInt = ((ad a b * ad a b : Nat) : Int) := by
  have d : (a : Int) - (b : Int) = (ad a b : Int) ∨ (a : Int) - (b : Int) = -(ad a b : Int) := by unfold ad; omega
  have l : ad a b ≤ 100 := by unfold ad; omega
  have l2 := Nat.mul_le_mul l l
  have e : ((a : Int) - (b : Int)) * ((a : Int) - (b : Int)) = ((ad a b * ad a b : Nat) : Int) := by
    rcases d with d | d
    · rw [d, Int.natCast_mul]
    · rw [d, Int.neg_mul_neg, Int.natCast_mul]
  have := i_mul h h (by rw [e]; omega) (by rw [e]; omega)
  rw [this, e]
/-- a place is not farther than R from CELL c -/
def NM (A : Nat → Int32) (R c k i : Nat) : Prop := ad i (A (100 + 16 * c + 2)).toInt.toNat * ad i (A (100 + 16 * c + 2)).toInt.toNat + ad k (A (100 + 16 * c + 3)).toInt.toNat * ad k (A (100 + 16 * c + 3)).toInt.toNat ≤ R * R
theorem div_32 {x : Int32} {p : Nat} (hx : x.toInt = (p : Int)) (hp : p ≤ 100000) : (x / 32).toInt = ((p / 32 : Nat) : Int) := by
  rw [Int32.toInt_div_of_ne_right _ _ (show (32 : Int32) ≠ -1 by decide), hx, show (32 : Int32).toInt = 32 by decide, Int.tdiv_eq_ediv_of_nonneg (by omega)]
  omega
theorem ar_44 {x19 : Int32} {N R : Nat} (hN : (si 384 2).toInt = (N : Int)) (hN2 : N ≤ 40) (hR : (si 384 16).toInt = (R : Int)) (hR2 : R ≤ 20) (rk : Nat → Bool) (hk : ∀ (x : Int32) (c : Nat), x.toInt = (c : Int) → c < N → g_X12_wasRock x x19 U V si sj sq = ((if rk c = true then 1 else 0), U, V, si, sj, sq)) (hP : ∀ c, c < N → (0 ≤ (si 384 (100 + 16 * c + 2)).toInt ∧ (si 384 (100 + 16 * c + 2)).toInt ≤ 31) ∧ (0 ≤ (si 384 (100 + 16 * c + 3)).toInt ∧ (si 384 (100 + 16 * c + 3)).toInt ≤ 31)) {p : Nat} {xa xp : Int32} (hp : xp.toInt = (p : Int)) (hp2 : p < 1024) {k : Int32 → Int32 → Int32 × vM} : ∀ (n : Nat) (b x : Int32) (c : Nat), x.toInt = (c : Int) → c ≤ N → N - c < n → (b = 0 ∨ b = 1) → ∃ b' : Int32, (b' = 0 ∨ b' = 1) ∧ g_X12_areaOf_L44 U V si sj sq x19 xa xp k n b x = k (xa + b') (xp + Int32.ofInt 1) ∧ (b' = 1 ↔ b = 1 ∨ ∃ c', c ≤ c' ∧ c' < N ∧ rk c' = true ∧ NM (si 384) R c' (p / 32) (p % 32)) := by
  have n16 : (16 : Int32).toNatClampNeg = 16 := by decide
  have k142 : ∀ b : Int32, (b = 0 ∨ b = 1) → g_X12_areaOf_K142 xa xp k b = k (xa + b) (xp + Int32.ofInt 1) := fun b hb => by
    rw [g_X12_areaOf_K142_e]
    rcases hb with h | h
    · rw [h, if_pos rfl]; rfl
    · rw [h, if_neg (show ¬ (1 : Int32) = 0 by decide)]; rfl
  intro n
  induction n with
  | zero => intro _ _ _ _ _ h; exact absurd h (Nat.not_lt_zero _)
  | succ n ih =>
    intro b x c hx hc hn hb
    rw [g_X12_areaOf_L44_e]
    simp only [↓ap1_n, n16, g_X12_areaOf_K133, g_X12_areaOf_K134, g_X12_areaOf_K134_2]
    by_cases q : si 384 2 ≤ x
    · have q1 := (le_n hN hx).mp q
      rw [if_pos q]
      refine ⟨b, hb, k142 b hb, fun h => Or.inl h, fun h => ?_⟩
      rcases h with h | ⟨c', h1, h2, _⟩
      · exact h
      · exact absurd h2 (by omega)
    · have q1 : ¬ N ≤ c := fun z => q ((le_n hN hx).mpr z)
      rw [if_neg q]
      rcases hb with b0 | b0
      · -- none yet
        rw [if_pos b0]
        obtain ⟨⟨p1, p2⟩, ⟨p3, p4⟩⟩ := hP c (by omega)
        rw [bn_n (ca_m2 hx (by omega)), bn_n (ca_m3 hx (by omega))]
        have d1 := div_32 hp (by omega)
        have d2 : (xp / 32 * 32).toInt = ((p / 32 * 32 : Nat) : Int) := by
          have := i_mul d1 (show (32 : Int32).toInt = 32 by decide) (by omega) (by omega)
          rw [this]; omega
        have d3 : (xp - xp / 32 * 32).toInt = ((p % 32 : Nat) : Int) := by
          have := i_sub hp d2 (by omega) (by omega)
          rw [this]; omega
        obtain ⟨X, hX⟩ : ∃ X : Nat, (si 384 (100 + 16 * c + 2)).toInt = (X : Int) := ⟨(si 384 (100 + 16 * c + 2)).toInt.toNat, by omega⟩
        obtain ⟨Y, hY⟩ : ∃ Y : Nat, (si 384 (100 + 16 * c + 3)).toInt = (Y : Int) := ⟨(si 384 (100 + 16 * c + 3)).toInt.toNat, by omega⟩
        have s1 := sq_d (a := p % 32) (b := X) (i_sub d3 hX (by omega) (by omega)) (by omega) (by omega)
        have s2 := sq_d (a := p / 32) (b := Y) (i_sub d1 hY (by omega) (by omega)) (by omega) (by omega)
        have s3 := sq_i hR (by omega)
        have l1 : ad (p % 32) X ≤ 31 := by unfold ad; omega
        have l2 : ad (p / 32) Y ≤ 31 := by unfold ad; omega
        have l3 := Nat.mul_le_mul l1 l1
        have l4 := Nat.mul_le_mul l2 l2
        have s4 := i_add s1 s2 (by omega) (by omega)
        have nm : NM (si 384) R c (p / 32) (p % 32) ↔ ad (p % 32) X * ad (p % 32) X + ad (p / 32) Y * ad (p / 32) Y ≤ R * R := by
          unfold NM
          rw [hX, hY, Int.toNat_natCast, Int.toNat_natCast]
        generalize (xp - xp / 32 * 32 - si 384 (100 + 16 * c + 2)) * (xp - xp / 32 * 32 - si 384 (100 + 16 * c + 2)) + (xp / 32 - si 384 (100 + 16 * c + 3)) * (xp / 32 - si 384 (100 + 16 * c + 3)) = D at s4 ⊢
        have far : si 384 16 * si 384 16 < D ↔ ¬ NM (si 384) R c (p / 32) (p % 32) := by
          rw [nm, Int32.lt_iff_toInt_lt, s3, s4]
          omega
        have skip : ¬ (rk c = true ∧ NM (si 384) R c (p / 32) (p % 32)) → ∃ b' : Int32, (b' = 0 ∨ b' = 1) ∧ g_X12_areaOf_L44 U V si sj sq x19 xa xp k n 0 (x + Int32.ofInt 1) = k (xa + b') (xp + Int32.ofInt 1) ∧ (b' = 1 ↔ b = 1 ∨ ∃ c', c ≤ c' ∧ c' < N ∧ rk c' = true ∧ NM (si 384) R c' (p / 32) (p % 32)) := fun hno => by
          obtain ⟨b', e1, e2, e3⟩ := ih 0 (x + Int32.ofInt 1) (c + 1) (up_i hx (by omega)) (by omega) (by omega) (Or.inl rfl)
          refine ⟨b', e1, e2, e3.trans ⟨fun h => ?_, fun h => ?_⟩⟩
          · rcases h with h | ⟨c', h1, h2, h3⟩
            · exact absurd h (by decide)
            · exact Or.inr ⟨c', by omega, h2, h3⟩
          · rcases h with h | ⟨c', h1, h2, h3⟩
            · rw [b0] at h; exact absurd h (by decide)
            · by_cases z : c' = c
              · rw [z] at h3; exact absurd h3 hno
              · exact Or.inr ⟨c', by omega, h2, h3⟩
        by_cases f : si 384 16 * si 384 16 < D
        · rw [if_pos f]
          exact skip (fun z => far.mp f z.2)
        · rw [if_neg f, bn_n (hk x c hx (by omega))]
          by_cases r : rk c = true
          · rw [if_pos r, if_neg (show ¬ (1 : Int32) = 0 by decide)]
            obtain ⟨b', e1, e2, e3⟩ := ih 1 (x + Int32.ofInt 1) (c + 1) (up_i hx (by omega)) (by omega) (by omega) (Or.inr rfl)
            refine ⟨b', e1, e2, fun _ => Or.inr ⟨c, Nat.le_refl _, by omega, r, ?_⟩, fun _ => e3.mpr (Or.inl rfl)⟩
            by_cases z : NM (si 384) R c (p / 32) (p % 32)
            · exact z
            · exact absurd (far.mpr z) f
          · rw [if_neg r, if_pos (show (0 : Int32) = 0 from rfl)]
            exact skip (fun z => r z.1)
      · rw [if_neg (show ¬ b = 0 by rw [b0]; decide)]
        exact ⟨b, Or.inr b0, k142 b (Or.inr b0), fun h => Or.inl h, fun _ => b0⟩
theorem ar_30 {x19 : Int32} {N R : Nat} (hN : (si 384 2).toInt = (N : Int)) (hN2 : N ≤ 40) (hR : (si 384 16).toInt = (R : Int)) (hR2 : R ≤ 20) (rk : Nat → Bool) (hk : ∀ (x : Int32) (c : Nat), x.toInt = (c : Int) → c < N → g_X12_wasRock x x19 U V si sj sq = ((if rk c = true then 1 else 0), U, V, si, sj, sq)) (hP : ∀ c, c < N → (0 ≤ (si 384 (100 + 16 * c + 2)).toInt ∧ (si 384 (100 + 16 * c + 2)).toInt ≤ 31) ∧ (0 ≤ (si 384 (100 + 16 * c + 3)).toInt ∧ (si 384 (100 + 16 * c + 3)).toInt ≤ 31)) (f : Nat → Bool) (hf : ∀ p, p < 1024 → (f p = true ↔ ∃ c, c < N ∧ rk c = true ∧ NM (si 384) R c (p / 32) (p % 32))) : ∀ (n : Nat) (a x : Int32) (s p : Nat), a.toInt = (s : Int) → x.toInt = (p : Int) → p ≤ 1024 → s ≤ p → 1024 - p < n → ∃ y : Int32, g_X12_areaOf_L30 U V si sj sq x19 n a x = (y, U, V, si, sj, sq) ∧ y.toInt = ((s + cnF f p (1024 - p) : Nat) : Int) := by
  have k0 : (0 : Int32).toInt = 0 := by decide
  have k1024 : (1024 : Int32).toInt = ((1024 : Nat) : Int) := by decide
  intro n
  induction n with
  | zero => intro _ _ _ _ _ _ _ _ h; exact absurd h (Nat.not_lt_zero _)
  | succ n ih =>
    intro a x s p ha hx hp hs hn
    rw [g_X12_areaOf_L30_e]
    by_cases q : (1024 : Int32) ≤ x
    · have q1 := (le_n k1024 hx).mp q
      have e : 1024 - p = 0 := by omega
      rw [if_pos q, e]
      exact ⟨a, rfl, ha⟩
    · have q1 : ¬ 1024 ≤ p := fun z => q ((le_n k1024 hx).mpr z)
      rw [if_neg q]
      obtain ⟨b, b1, b2, b3⟩ := ar_44 (U := U) (V := V) (si := si) (sj := sj) (sq := sq) hN hN2 hR hR2 rk hk hP hx (by omega) (xa := a) (k := g_X12_areaOf_L30 U V si sj sq x19 n) ((40 - (0 : Int32).toInt).toNat + 1) 0 0 0 k0 (Nat.zero_le _) (by rw [k0]; omega) (Or.inl rfl)
      rw [b2]
      have up : (x + Int32.ofInt 1).toInt = ((p + 1 : Nat) : Int) := by
        have := i_add hx (show (Int32.ofInt 1).toInt = 1 by decide) (by omega) (by omega)
        rw [this]; omega
      have e : 1024 - p = 1024 - (p + 1) + 1 := by omega
      rw [e]
      have fp : f p = true ↔ b = 1 := (hf p (by omega)).trans ⟨fun ⟨c, h1, h2⟩ => b3.mpr (Or.inr ⟨c, Nat.zero_le _, h1, h2⟩), fun h => by
        rcases b3.mp h with z | ⟨c, _, z1, z2⟩
        · exact absurd z (by decide)
        · exact ⟨c, z1, z2⟩⟩
      show ∃ y : Int32, g_X12_areaOf_L30 U V si sj sq x19 n (a + b) (x + Int32.ofInt 1) = (y, U, V, si, sj, sq) ∧ y.toInt = ((s + ((if f p = true then 1 else 0) + cnF f (p + 1) (1024 - (p + 1))) : Nat) : Int)
      rcases b1 with z | z
      · have nf : ¬ f p = true := fun h => by
          have := fp.mp h
          rw [z] at this
          exact absurd this (by decide)
        obtain ⟨y, e1, e2⟩ := ih (a + b) (x + Int32.ofInt 1) s (p + 1) (by rw [z, i_add ha k0 (by omega) (by omega)]; omega) up (by omega) (by omega) (by omega)
        rw [if_neg nf]
        exact ⟨y, e1, e2.trans (by rw [Nat.zero_add])⟩
      · obtain ⟨y, e1, e2⟩ := ih (a + b) (x + Int32.ofInt 1) (s + 1) (p + 1) (by rw [z, i_add ha (show (1 : Int32).toInt = 1 by decide) (by omega) (by omega)]; omega) up (by omega) (by omega) (by omega)
        rw [if_pos (fp.mpr z)]
        exact ⟨y, e1, e2.trans (by rw [Nat.add_assoc])⟩
/-- AREA of the reference in the MONTH x19 -/
theorem area_m {x19 : Int32} {N R : Nat} (hN : (si 384 2).toInt = (N : Int)) (hN2 : N ≤ 40) (hR : (si 384 16).toInt = (R : Int)) (hR2 : R ≤ 20) (rk : Nat → Bool) (hk : ∀ (x : Int32) (c : Nat), x.toInt = (c : Int) → c < N → g_X12_wasRock x x19 U V si sj sq = ((if rk c = true then 1 else 0), U, V, si, sj, sq)) (hP : ∀ c, c < N → (0 ≤ (si 384 (100 + 16 * c + 2)).toInt ∧ (si 384 (100 + 16 * c + 2)).toInt ≤ 31) ∧ (0 ≤ (si 384 (100 + 16 * c + 3)).toInt ∧ (si 384 (100 + 16 * c + 3)).toInt ≤ 31)) (f : Nat → Bool) (hf : ∀ p, p < 1024 → (f p = true ↔ ∃ c, c < N ∧ rk c = true ∧ NM (si 384) R c (p / 32) (p % 32))) : ∃ y : Int32, g_X12_areaOf_K23 U V si sj sq x19 = (y, U, V, si, sj, sq) ∧ y.toInt = (cnF f 0 1024 : Int) := by
  have k0 : (0 : Int32).toInt = 0 := by decide
  rw [g_X12_areaOf_K23_e]
  obtain ⟨y, e1, e2⟩ := ar_30 (U := U) (V := V) (si := si) (sj := sj) (sq := sq) hN hN2 hR hR2 rk hk hP f hf ((1024 - (0 : Int32).toInt).toNat + 1) 0 0 0 0 k0 k0 (by omega) (Nat.le_refl _) (by rw [k0]; omega)
  exact ⟨y, e1, e2.trans (by rw [Nat.zero_add])⟩
end PM
