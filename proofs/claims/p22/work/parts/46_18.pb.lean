/-! ===== pure: bitCount of the JDK as a sum of bits (for area) ===== -/
section PB
def N3 (a : Int32) : Nat := a.toUInt32.toNat
theorem N3_lt (a : Int32) : N3 a < 4294967296 := a.toUInt32.toNat_lt
theorem n_add {a b : Int32} (h : N3 a + N3 b < 4294967296) : N3 (a + b) = N3 a + N3 b := by
  have e : (a + b).toUInt32 = a.toUInt32 + b.toUInt32 := rfl
  unfold N3 at h ⊢
  rw [e, UInt32.toNat_add]
  exact Nat.mod_eq_of_lt h
theorem n_sub {a b : Int32} (h : N3 b ≤ N3 a) : N3 (a - b) = N3 a - N3 b := by
  have e : (a - b).toUInt32 = a.toUInt32 - b.toUInt32 := rfl
  have la := N3_lt a
  unfold N3 at h la ⊢
  rw [e, UInt32.toNat_sub]
  omega
theorem n_and {a b : Int32} : N3 (a &&& b) = N3 a &&& N3 b := by
  have e : (a &&& b).toUInt32 = a.toUInt32 &&& b.toUInt32 := rfl
  unfold N3
  rw [e, UInt32.toNat_and]
theorem n_shr (a : Int32) {s : UInt32} (n : Nat) (hs : s.toNat = n) (hn : n < 32) : N3 ((a.toUInt32 >>> s).toInt32) = N3 a / 2 ^ n := by
  have e : ((a.toUInt32 >>> s).toInt32).toUInt32 = a.toUInt32 >>> s := rfl
  unfold N3
  rw [e, UInt32.toNat_shiftRight, hs, Nat.mod_eq_of_lt hn, Nat.shiftRight_eq_div_pow]
/-- and, by bytes -/
theorem and_b (x y : Nat) : x &&& y = (x % 256 &&& y % 256) + 256 * (x / 256 &&& y / 256) := by
  have h1 : (x &&& y) % 2 ^ 8 = x % 2 ^ 8 &&& y % 2 ^ 8 := Nat.and_mod_two_pow
  have h2 : (x &&& y) / 2 ^ 8 = x / 2 ^ 8 &&& y / 2 ^ 8 := Nat.and_div_two_pow
  have k : (2 : Nat) ^ 8 = 256 := by decide
  rw [k] at h1 h2
  rw [← h1, ← h2]
  omega
def m4 (a b c d : Nat) : Nat := a + 256 * (b + 256 * (c + 256 * d))
theorem m4_and {a b c d m : Nat} (ha : a < 256) (hb : b < 256) (hc : c < 256) (hd : d < 256) (hm : m < 256) : m4 a b c d &&& m4 m m m m = m4 (a &&& m) (b &&& m) (c &&& m) (d &&& m) := by
  unfold m4
  rw [and_b, show (a + 256 * (b + 256 * (c + 256 * d))) % 256 = a by omega, show (a + 256 * (b + 256 * (c + 256 * d))) / 256 = b + 256 * (c + 256 * d) by omega, show (m + 256 * (m + 256 * (m + 256 * m))) % 256 = m by omega, show (m + 256 * (m + 256 * (m + 256 * m))) / 256 = m + 256 * (m + 256 * m) by omega]
  rw [and_b (b + 256 * (c + 256 * d)), show (b + 256 * (c + 256 * d)) % 256 = b by omega, show (b + 256 * (c + 256 * d)) / 256 = c + 256 * d by omega, show (m + 256 * (m + 256 * m)) % 256 = m by omega, show (m + 256 * (m + 256 * m)) / 256 = m + 256 * m by omega]
  rw [and_b (c + 256 * d), show (c + 256 * d) % 256 = c by omega, show (c + 256 * d) / 256 = d by omega, show (m + 256 * m) % 256 = m by omega, show (m + 256 * m) / 256 = m by omega]
theorem m4_ex (A : Nat) (h : A < 4294967296) : ∃ a b c d, a < 256 ∧ b < 256 ∧ c < 256 ∧ d < 256 ∧ A = m4 a b c d := ⟨A % 256, A / 256 % 256, A / 65536 % 256, A / 16777216, by omega, by omega, by omega, by omega, by unfold m4; omega⟩
/-- the steps on one byte -/
def y2 (u : Nat) : Nat := u / 2 &&& 85
def y3 (u : Nat) : Nat := u - y2 u
def y7 (u : Nat) : Nat := (y3 u &&& 51) + (y3 u / 4 &&& 51)
def y10 (u : Nat) : Nat := y7 u % 16 + y7 u / 16
def p8 (u : Nat) : Nat := u % 2 + u / 2 % 2 + u / 4 % 2 + u / 8 % 2 + u / 16 % 2 + u / 32 % 2 + u / 64 % 2 + u / 128 % 2
theorem y_all : ∀ u, u < 256 → y2 u ≤ u ∧ y7 u ≤ 68 ∧ y7 u % 16 + y7 u / 16 ≤ 8 ∧ y10 u = p8 u := by decide +kernel
theorem c2 : ∀ u, u < 128 → (u &&& 85 = u % 128 &&& 85) ∧ ((u + 128) &&& 85 = u &&& 85) := by decide +kernel
theorem c6 : ∀ u, u < 64 → ((u + 64) &&& 51 = u &&& 51) ∧ ((u + 128) &&& 51 = u &&& 51) ∧ ((u + 192) &&& 51 = u &&& 51) := by decide +kernel
theorem c9 : ∀ u, u < 256 → u &&& 15 = u % 16 := by decide +kernel
theorem c15 : ∀ u, u < 256 → u &&& 63 = u % 64 := by decide +kernel
theorem s2 {u e : Nat} (hu : u < 256) (he : e < 2) : (u / 2 + 128 * e) &&& 85 = y2 u := by
  unfold y2
  have d : e = 0 ∨ e = 1 := by omega
  rcases d with d | d
  · rw [d]; rfl
  · rw [d]; exact (c2 (u / 2) (by omega)).2
theorem s6 {u e : Nat} (hu : u < 256) (he : e < 4) : (u / 4 + 64 * e) &&& 51 = u / 4 &&& 51 := by
  have d : e = 0 ∨ e = 1 ∨ e = 2 ∨ e = 3 := by omega
  obtain ⟨h1, h2, h3⟩ := c6 (u / 4) (by omega)
  rcases d with d | d | d | d
  · rw [d]; rfl
  · rw [d]; exact h1
  · rw [d]; exact h2
  · rw [d]; exact h3
theorem sh_1 {a b c d : Nat} (ha : a < 256) (hb : b < 256) (hc : c < 256) (hd : d < 256) : m4 a b c d / 2 = m4 (a / 2 + 128 * (b % 2)) (b / 2 + 128 * (c % 2)) (c / 2 + 128 * (d % 2)) (d / 2 + 128 * 0) := by unfold m4; omega
theorem sh_2 {a b c d : Nat} (ha : a < 256) (hb : b < 256) (hc : c < 256) (hd : d < 256) : m4 a b c d / 4 = m4 (a / 4 + 64 * (b % 4)) (b / 4 + 64 * (c % 4)) (c / 4 + 64 * (d % 4)) (d / 4 + 64 * 0) := by unfold m4; omega
theorem sh_4 {a b c d : Nat} (ha : a < 256) (hb : b < 256) (hc : c < 256) (hd : d < 256) : m4 a b c d / 16 = m4 (a / 16 + 16 * (b % 16)) (b / 16 + 16 * (c % 16)) (c / 16 + 16 * (d % 16)) (d / 16 + 16 * 0) := by unfold m4; omega
theorem m4_lt {a b c d : Nat} (ha : a < 256) (hb : b < 256) (hc : c < 256) (hd : d < 256) : m4 a b c d < 4294967296 := by unfold m4; omega
theorem bc_v (A0 : Int32) : ∃ a b c d, a < 256 ∧ b < 256 ∧ c < 256 ∧ d < 256 ∧ N3 A0 = m4 a b c d ∧ N3 (g_J6_bitCount_0f7a4 A0) = p8 a + p8 b + p8 c + p8 d := by
  obtain ⟨a, b, c, d, ha, hb, hc, hd, hA⟩ := m4_ex (N3 A0) (N3_lt A0)
  refine ⟨a, b, c, d, ha, hb, hc, hd, hA, ?_⟩
  obtain ⟨a1, a2, a3, a4⟩ := y_all a ha
  obtain ⟨b1, b2, b3', b4⟩ := y_all b hb
  obtain ⟨c1, c2', c3, c4⟩ := y_all c hc
  obtain ⟨d1, d2, d3, d4⟩ := y_all d hd
  have k5 : N3 1431655765 = m4 85 85 85 85 := by decide +kernel
  have k3 : N3 858993459 = m4 51 51 51 51 := by decide +kernel
  have kf : N3 252645135 = m4 15 15 15 15 := by decide +kernel
  have k6 : N3 63 = 63 := by decide +kernel
  rw [g_J6_bitCount_0f7a4_e]
  simp only [↓ap1_n]
  -- pairs
  generalize h1 : (A0.toUInt32 >>> ((1 : Int32).toUInt32 &&& Int32.toUInt32 31)).toInt32 = x1
  have e1 : N3 x1 = m4 a b c d / 2 := by
    rw [← h1, n_shr A0 1 (by decide +kernel) (by decide), hA]
    try rfl
  generalize h2 : x1 &&& (1431655765 : Int32) = x2
  have e2 : N3 x2 = m4 (y2 a) (y2 b) (y2 c) (y2 d) := by
    rw [← h2, n_and, e1, k5, sh_1 ha hb hc hd, m4_and (by omega) (by omega) (by omega) (by omega) (by decide), s2 ha (by omega), s2 hb (by omega), s2 hc (by omega), s2 hd (by omega)]
  generalize h3 : A0 - x2 = x3
  have e3 : N3 x3 = m4 (y3 a) (y3 b) (y3 c) (y3 d) := by
    rw [← h3, n_sub (by rw [e2, hA]; unfold m4; omega), e2, hA]
    unfold m4 y3
    omega
  have q3 : y3 a < 256 ∧ y3 b < 256 ∧ y3 c < 256 ∧ y3 d < 256 := by unfold y3; omega
  obtain ⟨qa, qb, qc, qd⟩ := q3
  -- fours
  generalize h4 : x3 &&& (858993459 : Int32) = x4
  have e4 : N3 x4 = m4 (y3 a &&& 51) (y3 b &&& 51) (y3 c &&& 51) (y3 d &&& 51) := by rw [← h4, n_and, e3, k3, m4_and qa qb qc qd (by decide)]
  generalize h5 : (x3.toUInt32 >>> ((2 : Int32).toUInt32 &&& Int32.toUInt32 31)).toInt32 = x5
  have e5 : N3 x5 = m4 (y3 a) (y3 b) (y3 c) (y3 d) / 4 := by
    rw [← h5, n_shr x3 2 (by decide +kernel) (by decide), e3]
    try rfl
  generalize h6 : x5 &&& (858993459 : Int32) = x6
  have e6 : N3 x6 = m4 (y3 a / 4 &&& 51) (y3 b / 4 &&& 51) (y3 c / 4 &&& 51) (y3 d / 4 &&& 51) := by
    rw [← h6, n_and, e5, k3, sh_2 qa qb qc qd, m4_and (by omega) (by omega) (by omega) (by omega) (by decide), s6 qa (by omega), s6 qb (by omega), s6 qc (by omega), s6 qd (by omega)]
  generalize h7 : x4 + x6 = x7
  have e7 : N3 x7 = m4 (y7 a) (y7 b) (y7 c) (y7 d) := by
    have u : m4 (y3 a &&& 51) (y3 b &&& 51) (y3 c &&& 51) (y3 d &&& 51) + m4 (y3 a / 4 &&& 51) (y3 b / 4 &&& 51) (y3 c / 4 &&& 51) (y3 d / 4 &&& 51) = m4 (y7 a) (y7 b) (y7 c) (y7 d) := by unfold m4 y7; omega
    have l := m4_lt (a := y7 a) (b := y7 b) (c := y7 c) (d := y7 d) (by omega) (by omega) (by omega) (by omega)
    rw [← h7, n_add (by rw [e4, e6, u]; exact l), e4, e6, u]
  -- bytes
  generalize h8 : (x7.toUInt32 >>> ((4 : Int32).toUInt32 &&& Int32.toUInt32 31)).toInt32 = x8
  have e8 : N3 x8 = m4 (y7 a / 16 + 16 * (y7 b % 16)) (y7 b / 16 + 16 * (y7 c % 16)) (y7 c / 16 + 16 * (y7 d % 16)) (y7 d / 16 + 16 * 0) := by rw [← h8, n_shr x7 4 (by decide +kernel) (by decide), e7]; exact sh_4 (by omega) (by omega) (by omega) (by omega)
  have r : ∀ u, u < 256 → y7 u % 16 ≤ 4 ∧ y7 u / 16 ≤ 4 := by decide +kernel
  have ra := r a ha
  have rb := r b hb
  have rc := r c hc
  have rd := r d hd
  generalize h9 : x7 + x8 = x9
  have e9 : N3 x9 = m4 (y7 a + (y7 a / 16 + 16 * (y7 b % 16))) (y7 b + (y7 b / 16 + 16 * (y7 c % 16))) (y7 c + (y7 c / 16 + 16 * (y7 d % 16))) (y7 d + (y7 d / 16 + 16 * 0)) := by
    have u : m4 (y7 a) (y7 b) (y7 c) (y7 d) + m4 (y7 a / 16 + 16 * (y7 b % 16)) (y7 b / 16 + 16 * (y7 c % 16)) (y7 c / 16 + 16 * (y7 d % 16)) (y7 d / 16 + 16 * 0) = m4 (y7 a + (y7 a / 16 + 16 * (y7 b % 16))) (y7 b + (y7 b / 16 + 16 * (y7 c % 16))) (y7 c + (y7 c / 16 + 16 * (y7 d % 16))) (y7 d + (y7 d / 16 + 16 * 0)) := by unfold m4; omega
    have l := m4_lt (a := y7 a + (y7 a / 16 + 16 * (y7 b % 16))) (b := y7 b + (y7 b / 16 + 16 * (y7 c % 16))) (c := y7 c + (y7 c / 16 + 16 * (y7 d % 16))) (d := y7 d + (y7 d / 16 + 16 * 0)) (by omega) (by omega) (by omega) (by omega)
    rw [← h9, n_add (by rw [e7, e8, u]; exact l), e7, e8, u]
  generalize h10 : x9 &&& (252645135 : Int32) = x10
  have e10 : N3 x10 = m4 (p8 a) (p8 b) (p8 c) (p8 d) := by
    rw [← h10, n_and, e9, kf, m4_and (by omega) (by omega) (by omega) (by omega) (by decide), c9 _ (by omega), c9 _ (by omega), c9 _ (by omega), c9 _ (by omega), ← a4, ← b4, ← c4, ← d4]
    unfold y10
    rw [show (y7 a + (y7 a / 16 + 16 * (y7 b % 16))) % 16 = y7 a % 16 + y7 a / 16 by omega, show (y7 b + (y7 b / 16 + 16 * (y7 c % 16))) % 16 = y7 b % 16 + y7 b / 16 by omega, show (y7 c + (y7 c / 16 + 16 * (y7 d % 16))) % 16 = y7 c % 16 + y7 c / 16 by omega, show (y7 d + (y7 d / 16 + 16 * 0)) % 16 = y7 d % 16 + y7 d / 16 by omega]
  have pa : p8 a ≤ 8 := by rw [← a4]; exact a3
  have pb : p8 b ≤ 8 := by rw [← b4]; exact b3'
  have pc : p8 c ≤ 8 := by rw [← c4]; exact c3
  have pd : p8 d ≤ 8 := by rw [← d4]; exact d3
  -- all
  generalize h11 : (x10.toUInt32 >>> ((8 : Int32).toUInt32 &&& Int32.toUInt32 31)).toInt32 = x11
  have e11 : N3 x11 = m4 (p8 b) (p8 c) (p8 d) 0 := by
    rw [← h11, n_shr x10 8 (by decide +kernel) (by decide), e10]
    unfold m4
    omega
  generalize h12 : x10 + x11 = x12
  have e12 : N3 x12 = m4 (p8 a + p8 b) (p8 b + p8 c) (p8 c + p8 d) (p8 d) := by
    rw [← h12, n_add (by rw [e10, e11]; unfold m4; omega), e10, e11]
    unfold m4
    omega
  generalize h13 : (x12.toUInt32 >>> ((16 : Int32).toUInt32 &&& Int32.toUInt32 31)).toInt32 = x13
  have e13 : N3 x13 = m4 (p8 c + p8 d) (p8 d) 0 0 := by
    rw [← h13, n_shr x12 16 (by decide +kernel) (by decide), e12]
    unfold m4
    omega
  generalize h14 : x12 + x13 = x14
  have e14 : N3 x14 = m4 (p8 a + p8 b + (p8 c + p8 d)) (p8 b + p8 c + p8 d) (p8 c + p8 d) (p8 d) := by
    rw [← h14, n_add (by rw [e12, e13]; unfold m4; omega), e12, e13]
    unfold m4
    omega
  rw [n_and, e14, k6, and_b]
  unfold m4
  rw [show (p8 a + p8 b + (p8 c + p8 d) + 256 * (p8 b + p8 c + p8 d + 256 * (p8 c + p8 d + 256 * p8 d))) % 256 = p8 a + p8 b + (p8 c + p8 d) by omega, show (63 : Nat) % 256 = 63 by decide, show (63 : Nat) / 256 = 0 by decide, Nat.and_zero, c15 _ (by omega)]
  omega
end PB
