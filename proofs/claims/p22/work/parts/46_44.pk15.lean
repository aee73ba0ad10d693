/-! ===== pure: Long.bitCount of the JDK; THE COUNCIL, both sides (behind pk14) ===== -/
section PK15
def N6 (a : Int64) : Nat := a.toUInt64.toNat
theorem N6_lt (a : Int64) : N6 a < 18446744073709551616 := a.toUInt64.toNat_lt
theorem n6_add {a b : Int64} (h : N6 a + N6 b < 18446744073709551616) : N6 (a + b) = N6 a + N6 b := by
  have e : (a + b).toUInt64 = a.toUInt64 + b.toUInt64 := rfl
  unfold N6 at h ⊢
  rw [e, UInt64.toNat_add]
  exact Nat.mod_eq_of_lt h
theorem n6_sub {a b : Int64} (h : N6 b ≤ N6 a) : N6 (a - b) = N6 a - N6 b := by
  have e : (a - b).toUInt64 = a.toUInt64 - b.toUInt64 := rfl
  have la := N6_lt a
  unfold N6 at h la ⊢
  rw [e, UInt64.toNat_sub]
  omega
theorem n6_and {a b : Int64} : N6 (a &&& b) = N6 a &&& N6 b := by
  have e : (a &&& b).toUInt64 = a.toUInt64 &&& b.toUInt64 := rfl
  unfold N6
  rw [e, UInt64.toNat_and]
theorem n6_shr (a : Int64) {s : UInt64} (n : Nat) (hs : s.toNat = n) (hn : n < 64) : N6 ((a.toUInt64 >>> s).toInt64) = N6 a / 2 ^ n := by
  have e : ((a.toUInt64 >>> s).toInt64).toUInt64 = a.toUInt64 >>> s := rfl
  unfold N6
  rw [e, UInt64.toNat_shiftRight, hs, Nat.mod_eq_of_lt hn, Nat.shiftRight_eq_div_pow]
theorem and_w (x y : Nat) : x &&& y = (x % 4294967296 &&& y % 4294967296) + 4294967296 * (x / 4294967296 &&& y / 4294967296) := by
  have h1 : (x &&& y) % 2 ^ 32 = x % 2 ^ 32 &&& y % 2 ^ 32 := Nat.and_mod_two_pow
  have h2 : (x &&& y) / 2 ^ 32 = x / 2 ^ 32 &&& y / 2 ^ 32 := Nat.and_div_two_pow
  have k : (2 : Nat) ^ 32 = 4294967296 := by decide
  rw [k] at h1 h2
  rw [← h1, ← h2]
  omega
def q8 (L H : Nat) : Nat := L + 4294967296 * H
theorem q8_and {L H M : Nat} (hL : L < 4294967296) (hM : M < 4294967296) : q8 L H &&& q8 M M = q8 (L &&& M) (H &&& M) := by
  unfold q8
  rw [and_w, show (L + 4294967296 * H) % 4294967296 = L by omega, show (L + 4294967296 * H) / 4294967296 = H by omega, show (M + 4294967296 * M) % 4294967296 = M by omega, show (M + 4294967296 * M) / 4294967296 = M by omega]
theorem q8_m {a b c d e f g h m : Nat} (ha : a < 256) (hb : b < 256) (hc : c < 256) (hd : d < 256) (he : e < 256) (hf : f < 256) (hg : g < 256) (hh : h < 256) (hm : m < 256) : q8 (m4 a b c d) (m4 e f g h) &&& q8 (m4 m m m m) (m4 m m m m) = q8 (m4 (a &&& m) (b &&& m) (c &&& m) (d &&& m)) (m4 (e &&& m) (f &&& m) (g &&& m) (h &&& m)) := by
  rw [q8_and (m4_lt ha hb hc hd) (m4_lt hm hm hm hm), m4_and ha hb hc hd hm, m4_and he hf hg hh hm]
theorem q8_ex (A : Nat) (hA : A < 18446744073709551616) : ∃ a b c d e f g h, a < 256 ∧ b < 256 ∧ c < 256 ∧ d < 256 ∧ e < 256 ∧ f < 256 ∧ g < 256 ∧ h < 256 ∧ A = q8 (m4 a b c d) (m4 e f g h) := by
  obtain ⟨a, b, c, d, ha, hb, hc, hd, e1⟩ := m4_ex (A % 4294967296) (Nat.mod_lt _ (by decide))
  obtain ⟨e, f, g, h, he, hf, hg, hh, e2⟩ := m4_ex (A / 4294967296) (by omega)
  exact ⟨a, b, c, d, e, f, g, h, ha, hb, hc, hd, he, hf, hg, hh, by unfold q8; omega⟩
theorem sq_1 {a b c d e f g h : Nat} (ha : a < 256) (hb : b < 256) (hc : c < 256) (hd : d < 256) (he : e < 256) (hf : f < 256) (hg : g < 256) (hh : h < 256) : q8 (m4 a b c d) (m4 e f g h) / 2 = q8 (m4 (a / 2 + 128 * (b % 2)) (b / 2 + 128 * (c % 2)) (c / 2 + 128 * (d % 2)) (d / 2 + 128 * (e % 2))) (m4 (e / 2 + 128 * (f % 2)) (f / 2 + 128 * (g % 2)) (g / 2 + 128 * (h % 2)) (h / 2 + 128 * 0)) := by unfold q8 m4; omega
theorem sq_2 {a b c d e f g h : Nat} (ha : a < 256) (hb : b < 256) (hc : c < 256) (hd : d < 256) (he : e < 256) (hf : f < 256) (hg : g < 256) (hh : h < 256) : q8 (m4 a b c d) (m4 e f g h) / 4 = q8 (m4 (a / 4 + 64 * (b % 4)) (b / 4 + 64 * (c % 4)) (c / 4 + 64 * (d % 4)) (d / 4 + 64 * (e % 4))) (m4 (e / 4 + 64 * (f % 4)) (f / 4 + 64 * (g % 4)) (g / 4 + 64 * (h % 4)) (h / 4 + 64 * 0)) := by unfold q8 m4; omega
theorem sq_4 {a b c d e f g h : Nat} (ha : a < 256) (hb : b < 256) (hc : c < 256) (hd : d < 256) (he : e < 256) (hf : f < 256) (hg : g < 256) (hh : h < 256) : q8 (m4 a b c d) (m4 e f g h) / 16 = q8 (m4 (a / 16 + 16 * (b % 16)) (b / 16 + 16 * (c % 16)) (c / 16 + 16 * (d % 16)) (d / 16 + 16 * (e % 16))) (m4 (e / 16 + 16 * (f % 16)) (f / 16 + 16 * (g % 16)) (g / 16 + 16 * (h % 16)) (h / 16 + 16 * 0)) := by unfold q8 m4; omega
theorem q8_lt {a b c d e f g h : Nat} (ha : a < 256) (hb : b < 256) (hc : c < 256) (hd : d < 256) (he : e < 256) (hf : f < 256) (hg : g < 256) (hh : h < 256) : q8 (m4 a b c d) (m4 e f g h) < 18446744073709551616 := by unfold q8 m4; omega
theorem bl_v (A0 : Int64) : ∃ a b c d e f g h, a < 256 ∧ b < 256 ∧ c < 256 ∧ d < 256 ∧ e < 256 ∧ f < 256 ∧ g < 256 ∧ h < 256 ∧ N6 A0 = q8 (m4 a b c d) (m4 e f g h) ∧ N3 (g_J13_bitCount_95d88 A0) = p8 a + p8 b + p8 c + p8 d + (p8 e + p8 f + p8 g + p8 h) := by
  obtain ⟨a, b, c, d, e, f, g, h, ha, hb, hc, hd, he, hf, hg, hh, hA⟩ := q8_ex (N6 A0) (N6_lt A0)
  refine ⟨a, b, c, d, e, f, g, h, ha, hb, hc, hd, he, hf, hg, hh, hA, ?_⟩
  obtain ⟨aa1, aa2, aa3, aa4⟩ := y_all a ha
  obtain ⟨bb1, bb2, bb3, bb4⟩ := y_all b hb
  obtain ⟨cc1, cc2, cc3, cc4⟩ := y_all c hc
  obtain ⟨dd1, dd2, dd3, dd4⟩ := y_all d hd
  obtain ⟨ee1, ee2, ee3, ee4⟩ := y_all e he
  obtain ⟨ff1, ff2, ff3, ff4⟩ := y_all f hf
  obtain ⟨gg1, gg2, gg3, gg4⟩ := y_all g hg
  obtain ⟨hh1, hh2, hh3, hh4⟩ := y_all h hh
  have k5 : N6 6148914691236517205 = q8 (m4 85 85 85 85) (m4 85 85 85 85) := by decide +kernel
  have k3 : N6 3689348814741910323 = q8 (m4 51 51 51 51) (m4 51 51 51 51) := by decide +kernel
  have kf : N6 1085102592571150095 = q8 (m4 15 15 15 15) (m4 15 15 15 15) := by decide +kernel
  have k7 : N3 127 = 127 := by decide +kernel
  rw [g_J13_bitCount_95d88_e]
  simp only [↓ap1_n]
  generalize h1 : (A0.toUInt64 >>> ((1 : Int32).toInt64.toUInt64 &&& Int64.toUInt64 63)).toInt64 = x1
  have e1 : N6 x1 = q8 (m4 a b c d) (m4 e f g h) / 2 := by
    rw [← h1, n6_shr A0 1 (by decide +kernel) (by decide), hA]
    try rfl
  generalize h2 : x1 &&& (6148914691236517205 : Int64) = x2
  have e2 : N6 x2 = q8 (m4 (y2 a) (y2 b) (y2 c) (y2 d)) (m4 (y2 e) (y2 f) (y2 g) (y2 h)) := by
    rw [← h2, n6_and, e1, k5, sq_1 ha hb hc hd he hf hg hh, q8_m (by omega) (by omega) (by omega) (by omega) (by omega) (by omega) (by omega) (by omega) (by decide), s2 ha (by omega), s2 hb (by omega), s2 hc (by omega), s2 hd (by omega), s2 he (by omega), s2 hf (by omega), s2 hg (by omega), s2 hh (by omega)]
  generalize h3 : A0 - x2 = x3
  have e3 : N6 x3 = q8 (m4 (y3 a) (y3 b) (y3 c) (y3 d)) (m4 (y3 e) (y3 f) (y3 g) (y3 h)) := by
    rw [← h3, n6_sub (by rw [e2, hA]; unfold q8 m4; omega), e2, hA]
    unfold q8 m4 y3
    omega
  have q3 : y3 a < 256 ∧ y3 b < 256 ∧ y3 c < 256 ∧ y3 d < 256 ∧ y3 e < 256 ∧ y3 f < 256 ∧ y3 g < 256 ∧ y3 h < 256 := by unfold y3; omega
  obtain ⟨za, zb, zc, zd, ze, zf, zg, zh⟩ := q3
  generalize h4 : x3 &&& (3689348814741910323 : Int64) = x4
  have e4 : N6 x4 = q8 (m4 (y3 a &&& 51) (y3 b &&& 51) (y3 c &&& 51) (y3 d &&& 51)) (m4 (y3 e &&& 51) (y3 f &&& 51) (y3 g &&& 51) (y3 h &&& 51)) := by rw [← h4, n6_and, e3, k3, q8_m za zb zc zd ze zf zg zh (by decide)]
  generalize h5 : (x3.toUInt64 >>> ((2 : Int32).toInt64.toUInt64 &&& Int64.toUInt64 63)).toInt64 = x5
  have e5 : N6 x5 = q8 (m4 (y3 a) (y3 b) (y3 c) (y3 d)) (m4 (y3 e) (y3 f) (y3 g) (y3 h)) / 4 := by
    rw [← h5, n6_shr x3 2 (by decide +kernel) (by decide), e3]
    try rfl
  generalize h6 : x5 &&& (3689348814741910323 : Int64) = x6
  have e6 : N6 x6 = q8 (m4 (y3 a / 4 &&& 51) (y3 b / 4 &&& 51) (y3 c / 4 &&& 51) (y3 d / 4 &&& 51)) (m4 (y3 e / 4 &&& 51) (y3 f / 4 &&& 51) (y3 g / 4 &&& 51) (y3 h / 4 &&& 51)) := by
    rw [← h6, n6_and, e5, k3, sq_2 za zb zc zd ze zf zg zh, q8_m (by omega) (by omega) (by omega) (by omega) (by omega) (by omega) (by omega) (by omega) (by decide), s6 za (by omega), s6 zb (by omega), s6 zc (by omega), s6 zd (by omega), s6 ze (by omega), s6 zf (by omega), s6 zg (by omega), s6 zh (by omega)]
  generalize h7 : x4 + x6 = x7
  have e7 : N6 x7 = q8 (m4 (y7 a) (y7 b) (y7 c) (y7 d)) (m4 (y7 e) (y7 f) (y7 g) (y7 h)) := by
    have u : q8 (m4 (y3 a &&& 51) (y3 b &&& 51) (y3 c &&& 51) (y3 d &&& 51)) (m4 (y3 e &&& 51) (y3 f &&& 51) (y3 g &&& 51) (y3 h &&& 51)) + q8 (m4 (y3 a / 4 &&& 51) (y3 b / 4 &&& 51) (y3 c / 4 &&& 51) (y3 d / 4 &&& 51)) (m4 (y3 e / 4 &&& 51) (y3 f / 4 &&& 51) (y3 g / 4 &&& 51) (y3 h / 4 &&& 51)) = q8 (m4 (y7 a) (y7 b) (y7 c) (y7 d)) (m4 (y7 e) (y7 f) (y7 g) (y7 h)) := by unfold q8 m4 y7; omega
    have l := q8_lt (a := y7 a) (b := y7 b) (c := y7 c) (d := y7 d) (e := y7 e) (f := y7 f) (g := y7 g) (h := y7 h) (by omega) (by omega) (by omega) (by omega) (by omega) (by omega) (by omega) (by omega)
    rw [← h7, n6_add (by rw [e4, e6, u]; exact l), e4, e6, u]
  generalize h8 : (x7.toUInt64 >>> ((4 : Int32).toInt64.toUInt64 &&& Int64.toUInt64 63)).toInt64 = x8
  have e8 : N6 x8 = q8 (m4 (y7 a / 16 + 16 * (y7 b % 16)) (y7 b / 16 + 16 * (y7 c % 16)) (y7 c / 16 + 16 * (y7 d % 16)) (y7 d / 16 + 16 * (y7 e % 16))) (m4 (y7 e / 16 + 16 * (y7 f % 16)) (y7 f / 16 + 16 * (y7 g % 16)) (y7 g / 16 + 16 * (y7 h % 16)) (y7 h / 16 + 16 * 0)) := by rw [← h8, n6_shr x7 4 (by decide +kernel) (by decide), e7]; exact sq_4 (by omega) (by omega) (by omega) (by omega) (by omega) (by omega) (by omega) (by omega)
  have r : ∀ u, u < 256 → y7 u % 16 ≤ 4 ∧ y7 u / 16 ≤ 4 := by decide +kernel
  have ra := r a ha
  have rb := r b hb
  have rc := r c hc
  have rd := r d hd
  have re := r e he
  have rf := r f hf
  have rg := r g hg
  have rh := r h hh
  generalize h9 : x7 + x8 = x9
  have e9 : N6 x9 = q8 (m4 (y7 a + (y7 a / 16 + 16 * (y7 b % 16))) (y7 b + (y7 b / 16 + 16 * (y7 c % 16))) (y7 c + (y7 c / 16 + 16 * (y7 d % 16))) (y7 d + (y7 d / 16 + 16 * (y7 e % 16)))) (m4 (y7 e + (y7 e / 16 + 16 * (y7 f % 16))) (y7 f + (y7 f / 16 + 16 * (y7 g % 16))) (y7 g + (y7 g / 16 + 16 * (y7 h % 16))) (y7 h + (y7 h / 16 + 16 * 0))) := by
    have u : q8 (m4 (y7 a) (y7 b) (y7 c) (y7 d)) (m4 (y7 e) (y7 f) (y7 g) (y7 h)) + q8 (m4 (y7 a / 16 + 16 * (y7 b % 16)) (y7 b / 16 + 16 * (y7 c % 16)) (y7 c / 16 + 16 * (y7 d % 16)) (y7 d / 16 + 16 * (y7 e % 16))) (m4 (y7 e / 16 + 16 * (y7 f % 16)) (y7 f / 16 + 16 * (y7 g % 16)) (y7 g / 16 + 16 * (y7 h % 16)) (y7 h / 16 + 16 * 0)) = q8 (m4 (y7 a + (y7 a / 16 + 16 * (y7 b % 16))) (y7 b + (y7 b / 16 + 16 * (y7 c % 16))) (y7 c + (y7 c / 16 + 16 * (y7 d % 16))) (y7 d + (y7 d / 16 + 16 * (y7 e % 16)))) (m4 (y7 e + (y7 e / 16 + 16 * (y7 f % 16))) (y7 f + (y7 f / 16 + 16 * (y7 g % 16))) (y7 g + (y7 g / 16 + 16 * (y7 h % 16))) (y7 h + (y7 h / 16 + 16 * 0))) := by unfold q8 m4; omega
    have l := q8_lt (a := y7 a + (y7 a / 16 + 16 * (y7 b % 16))) (b := y7 b + (y7 b / 16 + 16 * (y7 c % 16))) (c := y7 c + (y7 c / 16 + 16 * (y7 d % 16))) (d := y7 d + (y7 d / 16 + 16 * (y7 e % 16))) (e := y7 e + (y7 e / 16 + 16 * (y7 f % 16))) (f := y7 f + (y7 f / 16 + 16 * (y7 g % 16))) (g := y7 g + (y7 g / 16 + 16 * (y7 h % 16))) (h := y7 h + (y7 h / 16 + 16 * 0)) (by omega) (by omega) (by omega) (by omega) (by omega) (by omega) (by omega) (by omega)
    rw [← h9, n6_add (by rw [e7, e8, u]; exact l), e7, e8, u]
  generalize h10 : x9 &&& (1085102592571150095 : Int64) = x10
  have e10 : N6 x10 = q8 (m4 (p8 a) (p8 b) (p8 c) (p8 d)) (m4 (p8 e) (p8 f) (p8 g) (p8 h)) := by
    rw [← h10, n6_and, e9, kf, q8_m (by omega) (by omega) (by omega) (by omega) (by omega) (by omega) (by omega) (by omega) (by decide), c9 _ (by omega), c9 _ (by omega), c9 _ (by omega), c9 _ (by omega), c9 _ (by omega), c9 _ (by omega), c9 _ (by omega), c9 _ (by omega), ← aa4, ← bb4, ← cc4, ← dd4, ← ee4, ← ff4, ← gg4, ← hh4]
    unfold y10
    rw [show (y7 a + (y7 a / 16 + 16 * (y7 b % 16))) % 16 = y7 a % 16 + y7 a / 16 by omega, show (y7 b + (y7 b / 16 + 16 * (y7 c % 16))) % 16 = y7 b % 16 + y7 b / 16 by omega, show (y7 c + (y7 c / 16 + 16 * (y7 d % 16))) % 16 = y7 c % 16 + y7 c / 16 by omega, show (y7 d + (y7 d / 16 + 16 * (y7 e % 16))) % 16 = y7 d % 16 + y7 d / 16 by omega, show (y7 e + (y7 e / 16 + 16 * (y7 f % 16))) % 16 = y7 e % 16 + y7 e / 16 by omega, show (y7 f + (y7 f / 16 + 16 * (y7 g % 16))) % 16 = y7 f % 16 + y7 f / 16 by omega, show (y7 g + (y7 g / 16 + 16 * (y7 h % 16))) % 16 = y7 g % 16 + y7 g / 16 by omega, show (y7 h + (y7 h / 16 + 16 * 0)) % 16 = y7 h % 16 + y7 h / 16 by omega]
  have pa : p8 a ≤ 8 := by rw [← aa4]; exact aa3
  have pb : p8 b ≤ 8 := by rw [← bb4]; exact bb3
  have pc : p8 c ≤ 8 := by rw [← cc4]; exact cc3
  have pd : p8 d ≤ 8 := by rw [← dd4]; exact dd3
  have pe : p8 e ≤ 8 := by rw [← ee4]; exact ee3
  have pf : p8 f ≤ 8 := by rw [← ff4]; exact ff3
  have pg : p8 g ≤ 8 := by rw [← gg4]; exact gg3
  have ph : p8 h ≤ 8 := by rw [← hh4]; exact hh3
  generalize h11 : (x10.toUInt64 >>> ((8 : Int32).toInt64.toUInt64 &&& Int64.toUInt64 63)).toInt64 = x11
  have e11 : N6 x11 = q8 (m4 (p8 b) (p8 c) (p8 d) (p8 e)) (m4 (p8 f) (p8 g) (p8 h) (0)) := by
    rw [← h11, n6_shr x10 8 (by decide +kernel) (by decide), e10]
    unfold q8 m4
    omega
  generalize h12 : x10 + x11 = x12
  have e12 : N6 x12 = q8 (m4 (p8 a + p8 b) (p8 b + p8 c) (p8 c + p8 d) (p8 d + p8 e)) (m4 (p8 e + p8 f) (p8 f + p8 g) (p8 g + p8 h) (p8 h)) := by
    rw [← h12, n6_add (by rw [e10, e11]; unfold q8 m4; omega), e10, e11]
    unfold q8 m4
    omega
  generalize h13 : (x12.toUInt64 >>> ((16 : Int32).toInt64.toUInt64 &&& Int64.toUInt64 63)).toInt64 = x13
  have e13 : N6 x13 = q8 (m4 (p8 c + p8 d) (p8 d + p8 e) (p8 e + p8 f) (p8 f + p8 g)) (m4 (p8 g + p8 h) (p8 h) (0) (0)) := by
    rw [← h13, n6_shr x12 16 (by decide +kernel) (by decide), e12]
    unfold q8 m4
    omega
  generalize h14 : x12 + x13 = x14
  have e14 : N6 x14 = q8 (m4 (p8 a + p8 b + p8 c + p8 d) (p8 b + p8 c + p8 d + p8 e) (p8 c + p8 d + p8 e + p8 f) (p8 d + p8 e + p8 f + p8 g)) (m4 (p8 e + p8 f + p8 g + p8 h) (p8 f + p8 g + p8 h) (p8 g + p8 h) (p8 h)) := by
    rw [← h14, n6_add (by rw [e12, e13]; unfold q8 m4; omega), e12, e13]
    unfold q8 m4
    omega
  generalize h15 : (x14.toUInt64 >>> ((32 : Int32).toInt64.toUInt64 &&& Int64.toUInt64 63)).toInt64 = x15
  have e15 : N6 x15 = q8 (m4 (p8 e + p8 f + p8 g + p8 h) (p8 f + p8 g + p8 h) (p8 g + p8 h) (p8 h)) (m4 (0) (0) (0) (0)) := by
    rw [← h15, n6_shr x14 32 (by decide +kernel) (by decide), e14]
    unfold q8 m4
    omega
  generalize h16 : x14 + x15 = x16
  have e16 : N6 x16 = q8 (m4 (p8 a + p8 b + p8 c + p8 d + p8 e + p8 f + p8 g + p8 h) (p8 b + p8 c + p8 d + p8 e + p8 f + p8 g + p8 h) (p8 c + p8 d + p8 e + p8 f + p8 g + p8 h) (p8 d + p8 e + p8 f + p8 g + p8 h)) (m4 (p8 e + p8 f + p8 g + p8 h) (p8 f + p8 g + p8 h) (p8 g + p8 h) (p8 h)) := by
    rw [← h16, n6_add (by rw [e14, e15]; unfold q8 m4; omega), e14, e15]
    unfold q8 m4
    omega
  have t : N3 x16.toInt32 = N6 x16 % 4294967296 := by
    have q : x16.toInt32.toBitVec.toNat = x16.toBitVec.toNat % 2 ^ 32 := by
      rw [show x16.toInt32.toBitVec = x16.toBitVec.signExtend 32 from rfl]
      first | rw [BitVec.signExtend_eq_setWidth_of_le _ (by decide), BitVec.toNat_setWidth] | rw [BitVec.signExtend_eq_setWidth_of_lt _ (by decide), BitVec.toNat_setWidth] | simp [BitVec.toNat_signExtend, BitVec.toNat_setWidth]
    exact q
  have z : N6 x16 % 4294967296 % 128 = p8 a + p8 b + p8 c + p8 d + p8 e + p8 f + p8 g + p8 h := by
    rw [e16]
    unfold q8 m4
    omega
  have a7 : ∀ x : Nat, x &&& 127 = x % 128 := fun x => Nat.and_two_pow_sub_one_eq_mod x 7
  rw [n_and, t, k7, a7, z]
  omega
theorem pl_v (w : Int64) : (g_J13_bitCount_95d88 w).toInt = (cnF (hb w) 0 64 : Int) := by
  obtain ⟨a, b, c, d, e, f, g, h, ha, hb', hc, hd, he, hf, hg, hh, e1, e2⟩ := bl_v w
  have t : ∀ i, i < 64 → hb w (0 + i) = (N6 w).testBit i := fun i _ => by
    rw [Nat.zero_add]
    rfl
  have e3 := bs_v 64 (N6 w) 0 (hb w) t
  rw [e3, e1]
  have f0 := bs_8 (q8 (m4 a b c d) (m4 e f g h)) 56
  have g0 : (q8 (m4 a b c d) (m4 e f g h)) % 256 = a := by unfold q8 m4; omega
  have f1 := bs_8 (q8 (m4 a b c d) (m4 e f g h) / 256) 48
  have g1 : (q8 (m4 a b c d) (m4 e f g h) / 256) % 256 = b := by unfold q8 m4; omega
  have f2 := bs_8 (q8 (m4 a b c d) (m4 e f g h) / 256 / 256) 40
  have g2 : (q8 (m4 a b c d) (m4 e f g h) / 256 / 256) % 256 = c := by unfold q8 m4; omega
  have f3 := bs_8 (q8 (m4 a b c d) (m4 e f g h) / 256 / 256 / 256) 32
  have g3 : (q8 (m4 a b c d) (m4 e f g h) / 256 / 256 / 256) % 256 = d := by unfold q8 m4; omega
  have f4 := bs_8 (q8 (m4 a b c d) (m4 e f g h) / 256 / 256 / 256 / 256) 24
  have g4 : (q8 (m4 a b c d) (m4 e f g h) / 256 / 256 / 256 / 256) % 256 = e := by unfold q8 m4; omega
  have f5 := bs_8 (q8 (m4 a b c d) (m4 e f g h) / 256 / 256 / 256 / 256 / 256) 16
  have g5 : (q8 (m4 a b c d) (m4 e f g h) / 256 / 256 / 256 / 256 / 256) % 256 = f := by unfold q8 m4; omega
  have f6 := bs_8 (q8 (m4 a b c d) (m4 e f g h) / 256 / 256 / 256 / 256 / 256 / 256) 8
  have g6 : (q8 (m4 a b c d) (m4 e f g h) / 256 / 256 / 256 / 256 / 256 / 256) % 256 = g := by unfold q8 m4; omega
  have f7 := bs_8 (q8 (m4 a b c d) (m4 e f g h) / 256 / 256 / 256 / 256 / 256 / 256 / 256) 0
  have g7 : (q8 (m4 a b c d) (m4 e f g h) / 256 / 256 / 256 / 256 / 256 / 256 / 256) % 256 = h := by unfold q8 m4; omega
  rw [g0] at f0
  rw [g1] at f1
  rw [g2] at f2
  rw [g3] at f3
  rw [g4] at f4
  rw [g5] at f5
  rw [g6] at f6
  rw [g7] at f7
  have z : bs (q8 (m4 a b c d) (m4 e f g h) / 256 / 256 / 256 / 256 / 256 / 256 / 256 / 256) 0 = 0 := rfl
  have l : ∀ u, u < 256 → p8 u ≤ 8 := by decide +kernel
  have la := l a ha
  have lb := l b hb'
  have lc := l c hc
  have ld := l d hd
  have le := l e he
  have lf := l f hf
  have lg := l g hg
  have lh := l h hh
  have k : (g_J13_bitCount_95d88 w).toInt = (N3 (g_J13_bitCount_95d88 w) : Int) := by
    have h : (g_J13_bitCount_95d88 w).toBitVec.toNat < 2147483648 := by
      show N3 (g_J13_bitCount_95d88 w) < 2147483648
      rw [e2]
      omega
    show (g_J13_bitCount_95d88 w).toBitVec.toInt = _
    rw [BitVec.toInt_eq_toNat_of_lt (by omega)]
    rfl
  rw [k, e2, f0, f1, f2, f3, f4, f5, f6, f7, z]
  omega
end PK15
