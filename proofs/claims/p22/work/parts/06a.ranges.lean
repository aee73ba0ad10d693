/-! ===== ranges ===== -/
def rg (x : Int32) (a b : Int) : Prop := a ≤ x.toInt ∧ x.toInt ≤ b
theorem rg_full (x : Int32) : rg x (-2147483648) 2147483647 := ⟨by have := x.le_toInt; omega, by have := x.toInt_lt; omega⟩
theorem rg_w {x : Int32} {a b c d : Int} (h : rg x a b) (h1 : c ≤ a ∧ b ≤ d) : rg x c d := ⟨Int.le_trans h1.1 h.1, Int.le_trans h.2 h1.2⟩
theorem rg_k (v : Int32) (n : Int) (h : v.toInt = n) : rg v n n := ⟨by rw [h]; exact Int.le_refl _, by rw [h]; exact Int.le_refl _⟩
theorem rg_and {x : Int32} {a b c d : Int} (h : rg x a b) (h2 : rg x c d) {lo hi : Int} (h3 : (lo = a ∨ lo = c) ∧ (hi = b ∨ hi = d)) : rg x lo hi := by
  obtain ⟨h4, h5⟩ := h3
  refine ⟨?_, ?_⟩
  · rcases h4 with e | e <;> rw [e]
    · exact h.1
    · exact h2.1
  · rcases h5 with e | e <;> rw [e]
    · exact h.2
    · exact h2.2
theorem bm (n : Int) (h1 : -2147483648 ≤ n) (h2 : n ≤ 2147483647) : n.bmod (2 ^ 32) = n := by
  have h : (2 : Nat) ^ 32 = 4294967296 := rfl
  rw [h]
  exact Int.bmod_eq_of_le (by omega) (by omega)
theorem i_add {x y : Int32} {a b : Int} (hx : x.toInt = a) (hy : y.toInt = b) (h1 : -2147483648 ≤ a + b) (h2 : a + b ≤ 2147483647) : (x + y).toInt = a + b := by
  rw [Int32.toInt_add, hx, hy]; exact bm _ h1 h2
theorem i_sub {x y : Int32} {a b : Int} (hx : x.toInt = a) (hy : y.toInt = b) (h1 : -2147483648 ≤ a - b) (h2 : a - b ≤ 2147483647) : (x - y).toInt = a - b := by
  rw [Int32.toInt_sub, hx, hy]; exact bm _ h1 h2
theorem i_mul {x y : Int32} {a b : Int} (hx : x.toInt = a) (hy : y.toInt = b) (h1 : -2147483648 ≤ a * b) (h2 : a * b ≤ 2147483647) : (x * y).toInt = a * b := by
  rw [Int32.toInt_mul, hx, hy]; exact bm _ h1 h2
theorem rg_add {x y : Int32} {a b c d lo hi : Int} (hx : rg x a b) (hy : rg y c d) (h : (-2147483648 ≤ a + c ∧ b + d ≤ 2147483647) ∧ lo ≤ a + c ∧ b + d ≤ hi) : rg (x + y) lo hi := by
  obtain ⟨x1, x2⟩ := hx
  obtain ⟨y1, y2⟩ := hy
  have e := i_add (x := x) (y := y) rfl rfl (by omega) (by omega)
  exact ⟨by rw [e]; omega, by rw [e]; omega⟩
theorem rg_sub {x y : Int32} {a b c d lo hi : Int} (hx : rg x a b) (hy : rg y c d) (h : (-2147483648 ≤ a - d ∧ b - c ≤ 2147483647) ∧ lo ≤ a - d ∧ b - c ≤ hi) : rg (x - y) lo hi := by
  obtain ⟨x1, x2⟩ := hx
  obtain ⟨y1, y2⟩ := hy
  have e := i_sub (x := x) (y := y) rfl rfl (by omega) (by omega)
  exact ⟨by rw [e]; omega, by rw [e]; omega⟩
theorem rg_mul {x y : Int32} {a b c d lo hi : Int} (hx : rg x a b) (hy : rg y c d) (h : (0 ≤ a ∧ 0 ≤ c ∧ b * d ≤ 2147483647) ∧ lo ≤ a * c ∧ b * d ≤ hi) : rg (x * y) lo hi := by
  obtain ⟨x1, x2⟩ := hx
  obtain ⟨y1, y2⟩ := hy
  obtain ⟨⟨a0, c0, hb⟩, h1, h2⟩ := h
  have p1 : a * c ≤ x.toInt * y.toInt := Int.mul_le_mul x1 y1 c0 (Int.le_trans a0 x1)
  have p2 : x.toInt * y.toInt ≤ b * d := Int.mul_le_mul x2 y2 (Int.le_trans c0 y1) (Int.le_trans a0 (Int.le_trans x1 x2))
  have p3 : 0 ≤ a * c := Int.mul_nonneg a0 c0
  have e := i_mul (x := x) (y := y) rfl rfl (by omega) (by omega)
  exact ⟨by rw [e]; omega, by rw [e]; omega⟩
theorem rg_neg {x : Int32} {a b lo hi : Int} (hx : rg x a b) (h : (-2147483648 ≤ -b ∧ -a ≤ 2147483647) ∧ lo ≤ -b ∧ -a ≤ hi) : rg (-x) lo hi := by
  obtain ⟨x1, x2⟩ := hx
  have e : (-x).toInt = -x.toInt := by rw [Int32.toInt_neg]; exact bm _ (by omega) (by omega)
  exact ⟨by rw [e]; omega, by rw [e]; omega⟩
theorem rg_in {x : Int32} {a b : Int} {n : Nat} (h : rg x a b) (h1 : 0 ≤ a ∧ b < (n : Int)) : vp_in x n := vp_in_iff.mpr ⟨Int.le_trans h1.1 h.1, Int.lt_of_le_of_lt h.2 h1.2⟩
theorem rg_of_eq {x y : Int32} {a b : Int} (e : x = y) (h : rg y a b) : rg x a b := e ▸ h
/-- what a comparison adds -/
theorem rg_lt1 {x y : Int32} {a b c d lo hi : Int} (q : x < y) (hx : rg x a b) (hy : rg y c d) (h : (lo ≤ a) ∧ (b ≤ hi ∨ d - 1 ≤ hi)) : rg x lo hi := by
  rw [Int32.lt_iff_toInt_lt] at q
  obtain ⟨x1, x2⟩ := hx
  obtain ⟨y1, y2⟩ := hy
  exact ⟨by omega, by omega⟩
theorem rg_lt2 {x y : Int32} {a b c d lo hi : Int} (q : x < y) (hx : rg x a b) (hy : rg y c d) (h : (lo ≤ c ∨ lo ≤ a + 1) ∧ d ≤ hi) : rg y lo hi := by
  rw [Int32.lt_iff_toInt_lt] at q
  obtain ⟨x1, x2⟩ := hx
  obtain ⟨y1, y2⟩ := hy
  exact ⟨by omega, by omega⟩
theorem rg_le1 {x y : Int32} {a b c d lo hi : Int} (q : x ≤ y) (hx : rg x a b) (hy : rg y c d) (h : (lo ≤ a) ∧ (b ≤ hi ∨ d ≤ hi)) : rg x lo hi := by
  rw [Int32.le_iff_toInt_le] at q
  obtain ⟨x1, x2⟩ := hx
  obtain ⟨y1, y2⟩ := hy
  exact ⟨by omega, by omega⟩
theorem rg_le2 {x y : Int32} {a b c d lo hi : Int} (q : x ≤ y) (hx : rg x a b) (hy : rg y c d) (h : (lo ≤ c ∨ lo ≤ a) ∧ d ≤ hi) : rg y lo hi := by
  rw [Int32.le_iff_toInt_le] at q
  obtain ⟨x1, x2⟩ := hx
  obtain ⟨y1, y2⟩ := hy
  exact ⟨by omega, by omega⟩
theorem nlt {x y : Int32} (h : ¬ x < y) : y ≤ x := Int32.not_lt.mp h
theorem nle {x y : Int32} (h : ¬ x ≤ y) : y < x := Int32.not_le.mp h
theorem rg_ne {x : Int32} {k : Int32} {a b lo hi : Int} (q : ¬ x = k) (hx : rg x a b) (n : Int) (hk : k.toInt = n) (h : (lo ≤ a ∨ (a = n ∧ lo ≤ a + 1)) ∧ (b ≤ hi ∨ (b = n ∧ b - 1 ≤ hi))) : rg x lo hi := by
  have q2 : x.toInt ≠ n := fun e => q (Int32.toInt_inj.mp (e.trans hk.symm))
  obtain ⟨x1, x2⟩ := hx
  exact ⟨by omega, by omega⟩
theorem bool01 {v : Int32} (h : rg v 0 1) : v = 0 ∨ v = 1 := by
  obtain ⟨h1, h2⟩ := h
  have : v.toInt = 0 ∨ v.toInt = 1 := by omega
  rcases this with e | e
  · exact Or.inl (Int32.toInt_inj.mp (e.trans (by decide)))
  · exact Or.inr (Int32.toInt_inj.mp (e.trans (by decide)))
theorem rg_empty {x : Int32} {a b : Int} (h : rg x a b) (h1 : b < a) : False := by
  obtain ⟨x1, x2⟩ := h
  omega
/-- measures of loops -/
theorem ms_up {x y : Int32} {n : Nat} {a b M : Int} (k : Int) (hm : (M - x.toInt).toNat < n + 1) (e : y = x + Int32.ofInt k) (hk : (Int32.ofInt k).toInt = k) (h0 : 0 < k) (hx : rg x a b) (hb : b + k ≤ 2147483647 ∧ -2147483648 ≤ a) (hM : b < M) : (M - y.toInt).toNat < n := by
  obtain ⟨x1, x2⟩ := hx
  have e2 : y.toInt = x.toInt + k := by rw [e]; exact i_add rfl hk (by omega) (by omega)
  omega
theorem ms_dn {x y : Int32} {n : Nat} {a b M : Int} (k : Int) (hm : (x.toInt - M).toNat < n + 1) (e : y = x + Int32.ofInt (-k)) (hk : (Int32.ofInt (-k)).toInt = -k) (h0 : 0 < k) (hx : rg x a b) (hb : -2147483648 ≤ a - k ∧ b ≤ 2147483647) (hM : M < a) : (y.toInt - M).toNat < n := by
  obtain ⟨x1, x2⟩ := hx
  have e2 : y.toInt = x.toInt + -k := by rw [e]; exact i_add rfl hk (by omega) (by omega)
  omega
theorem rg_max2 {x y : Int32} {a b c d lo hi : Int} (hx : rg x a b) (hy : rg y c d) (h : (lo ≤ a ∨ lo ≤ c) ∧ b ≤ hi ∧ d ≤ hi) : rg (if x < y then y else x) lo hi := by
  obtain ⟨x1, x2⟩ := hx
  obtain ⟨y1, y2⟩ := hy
  split
  · next q => rw [Int32.lt_iff_toInt_lt] at q; exact ⟨by omega, by omega⟩
  · next q => have q := Int32.le_iff_toInt_le.mp (Int32.not_lt.mp q); exact ⟨by omega, by omega⟩
theorem rg_min2 {x y : Int32} {a b c d lo hi : Int} (hx : rg x a b) (hy : rg y c d) (h : (b ≤ hi ∨ d ≤ hi) ∧ lo ≤ a ∧ lo ≤ c) : rg (if y < x then y else x) lo hi := by
  obtain ⟨x1, x2⟩ := hx
  obtain ⟨y1, y2⟩ := hy
  split
  · next q => rw [Int32.lt_iff_toInt_lt] at q; exact ⟨by omega, by omega⟩
  · next q => have q := Int32.le_iff_toInt_le.mp (Int32.not_lt.mp q); exact ⟨by omega, by omega⟩
theorem i_add_rg {x y : Int32} {a b c d a2 b2 : Int} (e1 : x.toInt = a2) (e2 : y.toInt = b2) (hx : rg x a b) (hy : rg y c d) (h : -2147483648 ≤ a + c ∧ b + d ≤ 2147483647) : (x + y).toInt = a2 + b2 := by
  obtain ⟨x1, x2⟩ := hx
  obtain ⟨y1, y2⟩ := hy
  exact i_add e1 e2 (by omega) (by omega)
theorem i_sub_rg {x y : Int32} {a b c d a2 b2 : Int} (e1 : x.toInt = a2) (e2 : y.toInt = b2) (hx : rg x a b) (hy : rg y c d) (h : -2147483648 ≤ a - d ∧ b - c ≤ 2147483647) : (x - y).toInt = a2 - b2 := by
  obtain ⟨x1, x2⟩ := hx
  obtain ⟨y1, y2⟩ := hy
  exact i_sub e1 e2 (by omega) (by omega)
theorem ms_fu_iadd {o o2 x z k : Int32} {n : Nat} {M a b kk : Int} (hm : (M - o.toInt).toNat < n + 1) (e1 : z = x) (e2 : x = o2 + k) (e3 : o2 = o) (hk : k.toInt = kk) (h0 : 0 < kk) (hx : rg o2 a b) (hb : b + kk ≤ 2147483647 ∧ -2147483648 ≤ a) (hM : b < M) : (M - z.toInt).toNat < n := by
  obtain ⟨x1, x2⟩ := hx
  subst e3
  have e : z.toInt = o2.toInt + kk := by rw [e1, e2]; exact i_add rfl hk (by omega) (by omega)
  omega
theorem ms_fd_isub {o o2 x z k : Int32} {n : Nat} {M a b kk : Int} (hm : (o.toInt - M).toNat < n + 1) (e1 : z = x) (e2 : x = o2 - k) (e3 : o2 = o) (hk : k.toInt = kk) (h0 : 0 < kk) (hx : rg o2 a b) (hb : -2147483648 ≤ a - kk ∧ b ≤ 2147483647) (hM : M < a) : (z.toInt - M).toNat < n := by
  obtain ⟨x1, x2⟩ := hx
  subst e3
  have e : z.toInt = o2.toInt - kk := by rw [e1, e2]; exact i_sub rfl hk (by omega) (by omega)
  omega
theorem rg_abs {x : Int32} {a b lo hi : Int} (hx : rg x a b) (h : (-2147483648 ≤ -b ∧ -a ≤ 2147483647) ∧ lo ≤ 0 ∧ b ≤ hi ∧ -a ≤ hi) : rg (if 0 ≤ x then x else 0 - x) lo hi := by
  obtain ⟨x1, x2⟩ := hx
  split
  · next q => rw [Int32.le_iff_toInt_le] at q; have h0 : (0 : Int32).toInt = 0 := rfl; exact ⟨by omega, by omega⟩
  · next q =>
    have q := Int32.lt_iff_toInt_lt.mp (Int32.not_le.mp q)
    have h0 : (0 : Int32).toInt = 0 := rfl
    have e := i_sub (x := 0) (y := x) h0 rfl (by omega) (by omega)
    exact ⟨by rw [e]; omega, by rw [e]; omega⟩
theorem rg_div {x k : Int32} {a b n lo hi : Int} (hx : rg x a b) (hk : k.toInt = n) (h : (0 ≤ a ∧ 0 < n) ∧ lo ≤ a / n ∧ b / n ≤ hi) : rg (x / k) lo hi := by
  obtain ⟨x1, x2⟩ := hx
  obtain ⟨⟨a0, n0⟩, h1, h2⟩ := h
  have hk1 : k ≠ -1 := fun q => by rw [q] at hk; have : (-1 : Int32).toInt = -1 := rfl; omega
  have e : (x / k).toInt = x.toInt / n := by
    rw [Int32.toInt_div_of_ne_right _ _ hk1, hk]
    exact Int.tdiv_eq_ediv_of_nonneg (by omega)
  have p1 : a / n ≤ x.toInt / n := Int.ediv_le_ediv n0 x1
  have p2 : x.toInt / n ≤ b / n := Int.ediv_le_ediv n0 x2
  exact ⟨by rw [e]; omega, by rw [e]; omega⟩
theorem rg_rem {x k : Int32} {a b n lo hi : Int} (hx : rg x a b) (hk : k.toInt = n) (h : (0 ≤ a ∧ 0 < n) ∧ lo ≤ 0 ∧ (b ≤ hi ∨ n - 1 ≤ hi)) : rg (x - x / k * k) lo hi := by
  obtain ⟨x1, x2⟩ := hx
  obtain ⟨⟨a0, n0⟩, h1, h2⟩ := h
  have hk1 : k ≠ -1 := fun q => by rw [q] at hk; have : (-1 : Int32).toInt = -1 := rfl; omega
  have e : (x / k).toInt = x.toInt / n := by
    rw [Int32.toInt_div_of_ne_right _ _ hk1, hk]
    exact Int.tdiv_eq_ediv_of_nonneg (by omega)
  have m1 : 0 ≤ x.toInt / n := Int.ediv_nonneg (by omega) (by omega)
  have m2 : x.toInt / n * n ≤ x.toInt := Int.ediv_mul_le _ (by omega)
  have m3 : x.toInt < (x.toInt / n + 1) * n := Int.lt_ediv_add_one_mul_self _ n0
  have m4 : 0 ≤ x.toInt / n * n := Int.mul_nonneg m1 (by omega)
  have m5 : (x.toInt / n + 1) * n = x.toInt / n * n + n := by rw [Int.add_mul, Int.one_mul]
  have hx1 := x.toInt_lt
  have e2 := i_mul (x := x / k) (y := k) e hk (by omega) (by omega)
  have e3 := i_sub (x := x) (y := x / k * k) rfl e2 (by omega) (by omega)
  exact ⟨by rw [e3]; omega, by rw [e3]; omega⟩
theorem rg_pos {x : Int32} {a b : Int} (hx : rg x a b) (h : 0 ≤ a) : ¬ x < 0 := by
  obtain ⟨x1, x2⟩ := hx
  intro q
  rw [Int32.lt_iff_toInt_lt] at q
  have h0 : (0 : Int32).toInt = 0 := rfl
  omega
theorem rg_cl {x : Int32} {a b : Int} {n : Nat} (hx : rg x a b) (h : b ≤ (n : Int)) : x.toNatClampNeg ≤ n := by
  have h1 := hx.2
  have e : x.toInt.toNat = x.toNatClampNeg := rfl
  omega
theorem rg_cl1 {x : Int32} {a b : Int} {n : Nat} (hx : rg x a b) (h : b < (n : Int) ∧ 0 < n) : x.toNatClampNeg < n := by
  have h1 := hx.2
  have e : x.toInt.toNat = x.toNatClampNeg := rfl
  omega
theorem rg_cp {x y : Int32} {a b c d : Int} {n : Nat} (hx : rg x a b) (hy : rg y c d) (h : 0 ≤ b ∧ 0 ≤ d ∧ b + d ≤ (n : Int)) : x.toNatClampNeg + y.toNatClampNeg ≤ n := by
  have h1 := hx.2
  have h2 := hy.2
  have e : x.toInt.toNat = x.toNatClampNeg := rfl
  have e2 : y.toInt.toNat = y.toNatClampNeg := rfl
  omega
theorem cpy_eq {r r1 : Nat → Nat → Int32} {a b N : Nat} {i : Int32} {lo hi : Int} (e : r1 = va_up r b (va_cpy (r a) (r b) (0 : Int32).toNatClampNeg 0 i.toNatClampNeg)) (h : rg i lo hi) (hn : lo = (N : Int)) : ∀ j, j < N → r1 b j = r a j := by
  intro j hj
  have h1 := h.1
  have e2 : i.toInt.toNat = i.toNatClampNeg := rfl
  have e3 : (0 : Int32).toNatClampNeg = 0 := rfl
  rw [e, va_up_self]
  unfold va_cpy
  rw [if_pos (by omega), e3]
  congr 1
  omega
theorem rp_w {r r1 : Nat → Nat → Int32} {a n : Nat} {i v : Int32} {lo hi : Int} (h : ∀ j, j < n → rg (r a j) lo hi) (e : r1 = va_up r a (upd (r a) i.toNatClampNeg v)) (hv : rg v lo hi) : ∀ j, j < n → rg (r1 a j) lo hi := by
  intro j hj
  rw [e, va_up_self]
  unfold upd
  split
  · exact hv
  · exact h j hj
theorem rp_o {r r1 : Nat → Nat → Int32} {a b n : Nat} {g : Nat → Int32} {lo hi : Int} (h : ∀ j, j < n → rg (r a j) lo hi) (e : r1 = va_up r b g) (hne : a ≠ b) : ∀ j, j < n → rg (r1 a j) lo hi := by
  intro j hj
  rw [e, va_up_ne _ _ hne]
  exact h j hj
theorem tg_ne {tg : Nat → Nat} {a b s t : Nat} (ha : tg a = s) (hb : tg b = t) (h : s ≠ t) : a ≠ b := fun q => h (by rw [← ha, ← hb, q])
