/-! ===== pure: counting (behind pa) ===== -/
section PF
/-- of n from p on, how many -/
def cnF (f : Nat → Bool) : Nat → Nat → Nat
  | _, 0 => 0
  | p, n + 1 => (if f p = true then 1 else 0) + cnF f (p + 1) n
def smF (g : Nat → Nat) : Nat → Nat → Nat
  | _, 0 => 0
  | p, n + 1 => g p + smF g (p + 1) n
theorem cnF_cg {f g : Nat → Bool} : ∀ (n p q : Nat), (∀ i, i < n → f (p + i) = g (q + i)) → cnF f p n = cnF g q n
  | 0, _, _, _ => rfl
  | n + 1, p, q, h => by
    have h0 : f p = g q := h 0 (Nat.succ_pos _)
    show (if f p = true then 1 else 0) + cnF f (p + 1) n = (if g q = true then 1 else 0) + cnF g (q + 1) n
    rw [h0, cnF_cg n (p + 1) (q + 1) (fun i hi => by rw [Nat.add_assoc, Nat.add_assoc, Nat.add_comm 1 i]; exact h (i + 1) (by omega))]
theorem cnF_le {f : Nat → Bool} : ∀ (n p : Nat), cnF f p n ≤ n
  | 0, _ => Nat.le_refl _
  | n + 1, p => by
    have := cnF_le (f := f) n (p + 1)
    show (if f p = true then 1 else 0) + cnF f (p + 1) n ≤ n + 1
    by_cases c : f p = true
    · rw [if_pos c]; omega
    · rw [if_neg c]; omega
theorem cnF_add {f : Nat → Bool} : ∀ (m n p : Nat), cnF f p (m + n) = cnF f p m + cnF f (p + m) n
  | 0, n, p => by rw [Nat.zero_add, Nat.add_zero]; exact (Nat.zero_add _).symm
  | m + 1, n, p => by
    have e : m + 1 + n = m + n + 1 := by omega
    rw [e]
    show (if f p = true then 1 else 0) + cnF f (p + 1) (m + n) = (if f p = true then 1 else 0) + cnF f (p + 1) m + cnF f (p + (m + 1)) n
    rw [cnF_add m n (p + 1), show p + 1 + m = p + (m + 1) by omega, Nat.add_assoc]
/-- rows of 32 -/
theorem cnF_32 {f : Nat → Bool} : ∀ (n k : Nat), cnF f (32 * k) (32 * n) = smF (fun k => cnF f (32 * k) 32) k n
  | 0, _ => rfl
  | n + 1, k => by
    have e : 32 * (n + 1) = 32 + 32 * n := by omega
    have e2 : 32 * k + 32 = 32 * (k + 1) := by omega
    rw [e, cnF_add, e2, cnF_32 n (k + 1)]
    rfl
theorem smF_cg {g h : Nat → Nat} : ∀ (n p : Nat), (∀ i, p ≤ i → i < p + n → g i = h i) → smF g p n = smF h p n
  | 0, _, _ => rfl
  | n + 1, p, e => by
    show g p + smF g (p + 1) n = h p + smF h (p + 1) n
    rw [e p (Nat.le_refl _) (by omega), smF_cg n (p + 1) (fun i h1 h2 => e i (by omega) (by omega))]
/-- the bits of a number, the least first -/
def bs : Nat → Nat → Nat
  | _, 0 => 0
  | A, n + 1 => A % 2 + bs (A / 2) n
theorem bs_v : ∀ (n A p : Nat) (f : Nat → Bool), (∀ i, i < n → f (p + i) = A.testBit i) → cnF f p n = bs A n
  | 0, _, _, _, _ => rfl
  | n + 1, A, p, f, h => by
    have h0 : f p = A.testBit 0 := h 0 (Nat.succ_pos _)
    have e0 : (if f p = true then 1 else 0) = A % 2 := by
      rw [h0, Nat.testBit_zero]
      have : A % 2 = 0 ∨ A % 2 = 1 := by omega
      rcases this with d | d
      · rw [d]; decide
      · rw [d]; decide
    show (if f p = true then 1 else 0) + cnF f (p + 1) n = A % 2 + bs (A / 2) n
    rw [e0, bs_v n (A / 2) (p + 1) f (fun i hi => by rw [Nat.add_assoc, Nat.add_comm 1 i, h (i + 1) (by omega), Nat.testBit_succ])]
theorem bs_8 (A n : Nat) : bs A (n + 8) = p8 (A % 256) + bs (A / 256) n := by
  have e : bs A (n + 8) = A % 2 + (A / 2 % 2 + (A / 2 / 2 % 2 + (A / 2 / 2 / 2 % 2 + (A / 2 / 2 / 2 / 2 % 2 + (A / 2 / 2 / 2 / 2 / 2 % 2 + (A / 2 / 2 / 2 / 2 / 2 / 2 % 2 + (A / 2 / 2 / 2 / 2 / 2 / 2 / 2 % 2 + bs (A / 2 / 2 / 2 / 2 / 2 / 2 / 2 / 2) n))))))) := rfl
  have d : A / 2 / 2 / 2 / 2 / 2 / 2 / 2 / 2 = A / 256 := by omega
  rw [e, d]
  unfold p8
  omega
theorem pc_v (w : Int32) : (g_J6_bitCount_0f7a4 w).toInt = (cnF (b3 w) 0 32 : Int) := by
  obtain ⟨a, b, c, d, ha, hb, hc, hd, e1, e2⟩ := bc_v w
  have t : ∀ i, i < 32 → b3 w (0 + i) = (N3 w).testBit i := fun i _ => by
    rw [Nat.zero_add]
    rfl
  have e3 := bs_v 32 (N3 w) 0 (b3 w) t
  rw [e3, e1]
  have f1 := bs_8 (m4 a b c d) 24
  have f2 := bs_8 (m4 a b c d / 256) 16
  have f3 := bs_8 (m4 a b c d / 256 / 256) 8
  have f4 := bs_8 (m4 a b c d / 256 / 256 / 256) 0
  have g1 : m4 a b c d % 256 = a := by unfold m4; omega
  have g2 : m4 a b c d / 256 % 256 = b := by unfold m4; omega
  have g3 : m4 a b c d / 256 / 256 % 256 = c := by unfold m4; omega
  have g4 : m4 a b c d / 256 / 256 / 256 % 256 = d := by unfold m4; omega
  rw [g1] at f1
  rw [g2] at f2
  rw [g3] at f3
  rw [g4] at f4
  have z : bs (m4 a b c d / 256 / 256 / 256 / 256) 0 = 0 := rfl
  have l : ∀ u, u < 256 → p8 u ≤ 8 := by decide +kernel
  have la := l a ha
  have lb := l b hb
  have lc := l c hc
  have ld := l d hd
  have k : (g_J6_bitCount_0f7a4 w).toInt = (N3 (g_J6_bitCount_0f7a4 w) : Int) := by
    have h : (g_J6_bitCount_0f7a4 w).toBitVec.toNat < 2147483648 := by
      show N3 (g_J6_bitCount_0f7a4 w) < 2147483648
      rw [e2]
      omega
    show (g_J6_bitCount_0f7a4 w).toBitVec.toInt = _
    rw [BitVec.toInt_eq_toNat_of_lt (by omega)]
    rfl
  rw [k, e2, f1, f2, f3, f4, z]
  omega
end PF
