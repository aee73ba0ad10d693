theorem tm_ms {x y : Int} {n : Nat} (hm : y.toNat < n + 1) (h : x < y) (h0 : 0 ≤ x) : x.toNat < n := by omega
theorem tm_ms2' {x y a b : Int} {n : Nat} (hm : (2 * y + b).toNat < n + 1) (h : x ≤ y ∧ (x < y ∨ a < b)) (h0 : 0 ≤ x) (ha : 0 ≤ a ∧ a ≤ 1) (hb : 0 ≤ b ∧ b ≤ 1) : (2 * x + a).toNat < n := by omega
def wf1 (x : Int64) (c : Int32) : Int64 := (x <<< ((8 : Int32).toInt64 &&& 63)) ||| c.toInt64
def w3f (a b c : Int32) : Int64 := wf1 (wf1 a.toInt64 b) c
def w4f (a b c d : Int32) : Int64 := wf1 (w3f a b c) d
def w5f (a b c d e : Int32) : Int64 := wf1 (w4f a b c d) e
/-- the names that a token can spell -/
def NMW (x : Int64) : Prop := x = w3f 97 103 101 ∨ x = w3f 107 105 110 ∨ x = w5f 99 114 97 102 116 ∨ x = w5f 112 108 97 99 101 ∨ x = w5f 109 111 110 116 104 ∨ x = w5f 117 110 100 101 114
/-- what was read of a token that should be a name -/
def NMP (r : Int32) (k : Int) (x : Int64) : Prop := (0 ≤ r.toInt → k = 2 ∧ NMW x) ∧ (r.toInt < 0 → k = 2 → ¬ NMW x)
theorem cmp_iff {x y : Int64} : lg_cmp x y = 0 ↔ x = y := by
  unfold lg_cmp
  by_cases h1 : x > y
  · rw [if_pos h1]
    refine ⟨fun q => absurd q (by decide), fun q => ?_⟩
    subst q
    exact absurd (Int64.lt_iff_toInt_lt.mp h1) (by omega)
  · rw [if_neg h1]
    by_cases h2 : x = y
    · rw [if_pos h2]; exact ⟨fun _ => h2, fun _ => rfl⟩
    · rw [if_neg h2]; exact ⟨fun q => absurd q (by decide), fun q => absurd q h2⟩
