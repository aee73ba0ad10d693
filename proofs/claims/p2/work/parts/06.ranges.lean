/-! ===== ranges ===== -/
def rg (x : Int32) (a b : Int) : Prop := a ≤ x.toInt ∧ x.toInt ≤ b
theorem rg_full (x : Int32) : rg x (-2147483648) 2147483647 := ⟨x.le_toInt, Int.le_of_lt_add_one x.toInt_lt⟩
theorem rg_w {x : Int32} {a b c d : Int} (h : rg x a b) (h1 : c ≤ a ∧ b ≤ d) : rg x c d := ⟨Int.le_trans h1.1 h.1, Int.le_trans h.2 h1.2⟩
theorem rg_k (v : Int32) (n : Int) (h : v.toInt = n) : rg v n n := ⟨by rw [h]; exact Int.le_refl _, by rw [h]; exact Int.le_refl _⟩
theorem rg_and {x : Int32} {a b c d : Int} (h : rg x a b) (h2 : rg x c d) {lo hi : Int} (h3 : (lo = a ∨ lo = c) ∧ (hi = b ∨ hi = d)) : rg x lo hi := by
  obtain ⟨h4, h5⟩ := h3
  refine ⟨?_, ?_⟩
  · rcases h4 with e | e <;> rw [e]
    · exact h.1
    · exact h2.1
  · rcases h5 with e | e <;> rw [e]
    · exact h.2
    · exact h2.2
theorem bm (n : Int) (h1 : -2147483648 ≤ n) (h2 : n ≤ 2147483647) : n.bmod (2 ^ 32) = n := by
  have h : (2 : Nat) ^ 32 = 4294967296 := rfl
  rw [h]
  exact Int.bmod_eq_of_le (by omega) (by omega)
theorem i_add {x y : Int32} {a b : Int} (hx : x.toInt = a) (hy : y.toInt = b) (h1 : -2147483648 ≤ a + b) (h2 : a + b ≤ 2147483647) : (x + y).toInt = a + b := by
  rw [Int32.toInt_add, hx, hy]; exact bm _ h1 h2
theorem i_sub {x y : Int32} {a b : Int} (hx : x.toInt = a) (hy : y.toInt = b) (h1 : -2147483648 ≤ a - b) (h2 : a - b ≤ 2147483647) : (x - y).toInt = a - b := by
  rw [Int32.toInt_sub, hx, hy]; exact bm _ h1 h2
theorem i_mul {x y : Int32} {a b : Int} (hx : x.toInt = a) (hy : y.toInt = b) (h1 : -2147483648 ≤ a * b) (h2 : a * b ≤ 2147483647) : (x * y).toInt = a * b := by
  rw [Int32.toInt_mul, hx, hy]; exact bm _ h1 h2
theorem rg_add {x y : Int32} {a b c d lo hi : Int} (hx : rg x a b) (hy : rg y c d) (h : (-2147483648 ≤ a + c ∧ b + d ≤ 2147483647) ∧ lo ≤ a + c ∧ b + d ≤ hi) : rg (x + y) lo hi := by
  obtain ⟨x1, x2⟩ := hx
  obtain ⟨y1, y2⟩ := hy
  have e := i_add (x := x) (y := y) rfl rfl (by omega) (by omega)
  exact ⟨by rw [e]; omega, by rw [e]; omega⟩
theorem rg_sub {x y : Int32} {a b c d lo hi : Int} (hx : rg x a b) (hy : rg y c d) (h : (-2147483648 ≤ a - d ∧ b - c ≤ 2147483647) ∧ lo ≤ a - d ∧ b - c ≤ hi) : rg (x - y) lo hi := by
  obtain ⟨x1, x2⟩ := hx
  obtain ⟨y1, y2⟩ := hy
  have e := i_sub (x := x) (y := y) rfl rfl (by omega) (by omega)
  exact ⟨by rw [e]; omega, by rw [e]; omega⟩
theorem rg_mul {x y : Int32} {a b c d lo hi : Int} (hx : rg x a b) (hy : rg y c d) (h : (0 ≤ a ∧ 0 ≤ c ∧ b * d ≤ 2147483647) ∧ lo ≤ a * c ∧ b * d ≤ hi) : rg (x * y) lo hi := by
  obtain ⟨x1, x2⟩ := hx
  obtain ⟨y1, y2⟩ := hy
  obtain ⟨⟨a0, c0, hb⟩, h1, h2⟩ := h
  have p1 : a * c ≤ x.toInt * y.toInt := Int.mul_le_mul x1 y1 c0 (Int.le_trans a0 x1)
  have p2 : x.toInt * y.toInt ≤ b * d := Int.mul_le_mul x2 y2 (Int.le_trans c0 y1) (Int.le_trans a0 (Int.le_trans x1 x2))
  have p3 : 0 ≤ a * c := Int.mul_nonneg a0 c0
  have e := i_mul (x := x) (y := y) rfl rfl (by omega) (by omega)
  exact ⟨by rw [e]; omega, by rw [e]; omega⟩
theorem rg_neg {x : Int32} {a b lo hi : Int} (hx : rg x a b) (h : (-2147483648 ≤ -b ∧ -a ≤ 2147483647) ∧ lo ≤ -b ∧ -a ≤ hi) : rg (-x) lo hi := by
  obtain ⟨x1, x2⟩ := hx
  have e : (-x).toInt = -x.toInt := by rw [Int32.toInt_neg]; exact bm _ (by omega) (by omega)
  exact ⟨by rw [e]; omega, by rw [e]; omega⟩
theorem rg_in {x : Int32} {a b : Int} {n : Nat} (h : rg x a b) (h1 : 0 ≤ a ∧ b < (n : Int)) : vp_in x n := vp_in_iff.mpr ⟨Int.le_trans h1.1 h.1, Int.lt_of_le_of_lt h.2 h1.2⟩
theorem rg_of_eq {x y : Int32} {a b : Int} (e : x = y) (h : rg y a b) : rg x a b := e ▸ h
/-- what a comparison adds -/
theorem rg_lt1 {x y : Int32} {a b c d lo hi : Int} (q : x < y) (hx : rg x a b) (hy : rg y c d) (h : (lo ≤ a) ∧ (b ≤ hi ∨ d - 1 ≤ hi)) : rg x lo hi := by
  rw [Int32.lt_iff_toInt_lt] at q
  obtain ⟨x1, x2⟩ := hx
  obtain ⟨y1, y2⟩ := hy
  exact ⟨by omega, by omega⟩
theorem rg_lt2 {x y : Int32} {a b c d lo hi : Int} (q : x < y) (hx : rg x a b) (hy : rg y c d) (h : (lo ≤ c ∨ lo ≤ a + 1) ∧ d ≤ hi) : rg y lo hi := by
  rw [Int32.lt_iff_toInt_lt] at q
  obtain ⟨x1, x2⟩ := hx
  obtain ⟨y1, y2⟩ := hy
  exact ⟨by omega, by omega⟩
theorem rg_le1 {x y : Int32} {a b c d lo hi : Int} (q : x ≤ y) (hx : rg x a b) (hy : rg y c d) (h : (lo ≤ a) ∧ (b ≤ hi ∨ d ≤ hi)) : rg x lo hi := by
  rw [Int32.le_iff_toInt_le] at q
  obtain ⟨x1, x2⟩ := hx
  obtain ⟨y1, y2⟩ := hy
  exact ⟨by omega, by omega⟩
theorem rg_le2 {x y : Int32} {a b c d lo hi : Int} (q : x ≤ y) (hx : rg x a b) (hy : rg y c d) (h : (lo ≤ c ∨ lo ≤ a) ∧ d ≤ hi) : rg y lo hi := by
  rw [Int32.le_iff_toInt_le] at q
  obtain ⟨x1, x2⟩ := hx
  obtain ⟨y1, y2⟩ := hy
  exact ⟨by omega, by omega⟩
theorem nlt {x y : Int32} (h : ¬ x < y) : y ≤ x := Int32.not_lt.mp h
theorem nle {x y : Int32} (h : ¬ x ≤ y) : y < x := Int32.not_le.mp h
theorem rg_ne {x : Int32} {k : Int32} {a b lo hi : Int} (q : ¬ x = k) (hx : rg x a b) (n : Int) (hk : k.toInt = n) (h : (lo ≤ a ∨ (a = n ∧ lo ≤ a + 1)) ∧ (b ≤ hi ∨ (b = n ∧ b - 1 ≤ hi))) : rg x lo hi := by
  have q2 : x.toInt ≠ n := fun e => q (Int32.toInt_inj.mp (e.trans hk.symm))
  obtain ⟨x1, x2⟩ := hx
  exact ⟨by omega, by omega⟩
theorem bool01 {v : Int32} (h : rg v 0 1) : v = 0 ∨ v = 1 := by
  obtain ⟨h1, h2⟩ := h
  have : v.toInt = 0 ∨ v.toInt = 1 := by omega
  rcases this with e | e
  · exact Or.inl (Int32.toInt_inj.mp (e.trans (by decide)))
  · exact Or.inr (Int32.toInt_inj.mp (e.trans (by decide)))
theorem nbool {v : Int32} (h : rg v 0 1) : narrow .boolean (.int v) = .int v := by rcases bool01 h with e | e <;> subst e <;> rfl
theorem rg_empty {x : Int32} {a b : Int} (h : rg x a b) (h1 : b < a) : False := by
  obtain ⟨x1, x2⟩ := h
  omega
/-- measures of loops -/
theorem ms_up {x y : Int32} {n : Nat} {a b M : Int} (k : Int) (hm : (M - x.toInt).toNat < n + 1) (e : y = x + Int32.ofInt k) (hk : (Int32.ofInt k).toInt = k) (h0 : 0 < k) (hx : rg x a b) (hb : b + k ≤ 2147483647 ∧ -2147483648 ≤ a) (hM : b < M) : (M - y.toInt).toNat < n := by
  obtain ⟨x1, x2⟩ := hx
  have e2 : y.toInt = x.toInt + k := by rw [e]; exact i_add rfl hk (by omega) (by omega)
  omega
theorem ms_dn {x y : Int32} {n : Nat} {a b M : Int} (k : Int) (hm : (x.toInt - M).toNat < n + 1) (e : y = x + Int32.ofInt (-k)) (hk : (Int32.ofInt (-k)).toInt = -k) (h0 : 0 < k) (hx : rg x a b) (hb : -2147483648 ≤ a - k ∧ b ≤ 2147483647) (hM : M < a) : (y.toInt - M).toNat < n := by
  obtain ⟨x1, x2⟩ := hx
  have e2 : y.toInt = x.toInt + -k := by rw [e]; exact i_add rfl hk (by omega) (by omega)
  omega
theorem rg_max {x y : Int32} {a b c d lo hi : Int} (hx : rg x a b) (hy : rg y c d) (h : (lo ≤ a ∨ lo ≤ c) ∧ b ≤ hi ∧ d ≤ hi) : rg (if y ≤ x then x else y) lo hi := by
  obtain ⟨x1, x2⟩ := hx
  obtain ⟨y1, y2⟩ := hy
  split
  · next q => rw [Int32.le_iff_toInt_le] at q; exact ⟨by omega, by omega⟩
  · next q => have q := Int32.lt_iff_toInt_lt.mp (Int32.not_le.mp q); exact ⟨by omega, by omega⟩
theorem rg_min {x y : Int32} {a b c d lo hi : Int} (hx : rg x a b) (hy : rg y c d) (h : (b ≤ hi ∨ d ≤ hi) ∧ lo ≤ a ∧ lo ≤ c) : rg (if x ≤ y then x else y) lo hi := by
  obtain ⟨x1, x2⟩ := hx
  obtain ⟨y1, y2⟩ := hy
  split
  · next q => rw [Int32.le_iff_toInt_le] at q; exact ⟨by omega, by omega⟩
  · next q => have q := Int32.lt_iff_toInt_lt.mp (Int32.not_le.mp q); exact ⟨by omega, by omega⟩
theorem rg_max2 {x y : Int32} {a b c d lo hi : Int} (hx : rg x a b) (hy : rg y c d) (h : (lo ≤ a ∨ lo ≤ c) ∧ b ≤ hi ∧ d ≤ hi) : rg (if x < y then y else x) lo hi := by
  obtain ⟨x1, x2⟩ := hx
  obtain ⟨y1, y2⟩ := hy
  split
  · next q => rw [Int32.lt_iff_toInt_lt] at q; exact ⟨by omega, by omega⟩
  · next q => have q := Int32.le_iff_toInt_le.mp (Int32.not_lt.mp q); exact ⟨by omega, by omega⟩
theorem rg_min2 {x y : Int32} {a b c d lo hi : Int} (hx : rg x a b) (hy : rg y c d) (h : (b ≤ hi ∨ d ≤ hi) ∧ lo ≤ a ∧ lo ≤ c) : rg (if y < x then y else x) lo hi := by
  obtain ⟨x1, x2⟩ := hx
  obtain ⟨y1, y2⟩ := hy
  split
  · next q => rw [Int32.lt_iff_toInt_lt] at q; exact ⟨by omega, by omega⟩
  · next q => have q := Int32.le_iff_toInt_le.mp (Int32.not_lt.mp q); exact ⟨by omega, by omega⟩
theorem i_add_rg {x y : Int32} {a b c d a2 b2 : Int} (e1 : x.toInt = a2) (e2 : y.toInt = b2) (hx : rg x a b) (hy : rg y c d) (h : -2147483648 ≤ a + c ∧ b + d ≤ 2147483647) : (x + y).toInt = a2 + b2 := by
  obtain ⟨x1, x2⟩ := hx
  obtain ⟨y1, y2⟩ := hy
  exact i_add e1 e2 (by omega) (by omega)
theorem i_sub_rg {x y : Int32} {a b c d a2 b2 : Int} (e1 : x.toInt = a2) (e2 : y.toInt = b2) (hx : rg x a b) (hy : rg y c d) (h : -2147483648 ≤ a - d ∧ b - c ≤ 2147483647) : (x - y).toInt = a2 - b2 := by
  obtain ⟨x1, x2⟩ := hx
  obtain ⟨y1, y2⟩ := hy
  exact i_sub e1 e2 (by omega) (by omega)
theorem ms_fu_iadd {o o2 x z k : Int32} {n : Nat} {M a b kk : Int} (hm : (M - o.toInt).toNat < n + 1) (e1 : z = x) (e2 : x = o2 + k) (e3 : o2 = o) (hk : k.toInt = kk) (h0 : 0 < kk) (hx : rg o2 a b) (hb : b + kk ≤ 2147483647 ∧ -2147483648 ≤ a) (hM : b < M) : (M - z.toInt).toNat < n := by
  obtain ⟨x1, x2⟩ := hx
  subst e3
  have e : z.toInt = o2.toInt + kk := by rw [e1, e2]; exact i_add rfl hk (by omega) (by omega)
  omega
theorem ms_fd_isub {o o2 x z k : Int32} {n : Nat} {M a b kk : Int} (hm : (o.toInt - M).toNat < n + 1) (e1 : z = x) (e2 : x = o2 - k) (e3 : o2 = o) (hk : k.toInt = kk) (h0 : 0 < kk) (hx : rg o2 a b) (hb : -2147483648 ≤ a - kk ∧ b ≤ 2147483647) (hM : M < a) : (z.toInt - M).toNat < n := by
  obtain ⟨x1, x2⟩ := hx
  subst e3
  have e : z.toInt = o2.toInt - kk := by rw [e1, e2]; exact i_sub rfl hk (by omega) (by omega)
  omega
theorem rg_abs {x : Int32} {a b lo hi : Int} (hx : rg x a b) (h : (-2147483648 ≤ -b ∧ -a ≤ 2147483647) ∧ lo ≤ 0 ∧ b ≤ hi ∧ -a ≤ hi) : rg (if 0 ≤ x then x else 0 - x) lo hi := by
  obtain ⟨x1, x2⟩ := hx
  split
  · next q => rw [Int32.le_iff_toInt_le] at q; have h0 : (0 : Int32).toInt = 0 := rfl; exact ⟨by omega, by omega⟩
  · next q =>
    have q := Int32.lt_iff_toInt_lt.mp (Int32.not_le.mp q)
    have h0 : (0 : Int32).toInt = 0 := rfl
    have e := i_sub (x := 0) (y := x) h0 rfl (by omega) (by omega)
    exact ⟨by rw [e]; omega, by rw [e]; omega⟩
theorem rg_div {x k : Int32} {a b n lo hi : Int} (hx : rg x a b) (hk : k.toInt = n) (h : (0 ≤ a ∧ 0 < n) ∧ lo ≤ a / n ∧ b / n ≤ hi) : rg (x / k) lo hi := by
  obtain ⟨x1, x2⟩ := hx
  obtain ⟨⟨a0, n0⟩, h1, h2⟩ := h
  have hk1 : k ≠ -1 := fun q => by rw [q] at hk; have : (-1 : Int32).toInt = -1 := rfl; omega
  have e : (x / k).toInt = x.toInt / n := by
    rw [Int32.toInt_div_of_ne_right _ _ hk1, hk]
    exact Int.tdiv_eq_ediv_of_nonneg (by omega)
  have p1 : a / n ≤ x.toInt / n := Int.ediv_le_ediv n0 x1
  have p2 : x.toInt / n ≤ b / n := Int.ediv_le_ediv n0 x2
  exact ⟨by rw [e]; omega, by rw [e]; omega⟩
theorem rg_rem {x k : Int32} {a b n lo hi : Int} (hx : rg x a b) (hk : k.toInt = n) (h : (0 ≤ a ∧ 0 < n) ∧ lo ≤ 0 ∧ (b ≤ hi ∨ n - 1 ≤ hi)) : rg (x - x / k * k) lo hi := by
  obtain ⟨x1, x2⟩ := hx
  obtain ⟨⟨a0, n0⟩, h1, h2⟩ := h
  have hk1 : k ≠ -1 := fun q => by rw [q] at hk; have : (-1 : Int32).toInt = -1 := rfl; omega
  have e : (x / k).toInt = x.toInt / n := by
    rw [Int32.toInt_div_of_ne_right _ _ hk1, hk]
    exact Int.tdiv_eq_ediv_of_nonneg (by omega)
  have m1 : 0 ≤ x.toInt / n := Int.ediv_nonneg (by omega) (by omega)
  have m2 : x.toInt / n * n ≤ x.toInt := Int.ediv_mul_le _ (by omega)
  have m3 : x.toInt < (x.toInt / n + 1) * n := Int.lt_ediv_add_one_mul_self _ n0
  have m4 : 0 ≤ x.toInt / n * n := Int.mul_nonneg m1 (by omega)
  have m5 : (x.toInt / n + 1) * n = x.toInt / n * n + n := by rw [Int.add_mul, Int.one_mul]
  have hx1 := x.toInt_lt
  have e2 := i_mul (x := x / k) (y := k) e hk (by omega) (by omega)
  have e3 := i_sub (x := x) (y := x / k * k) rfl e2 (by omega) (by omega)
  exact ⟨by rw [e3]; omega, by rw [e3]; omega⟩
theorem rg_pos {x : Int32} {a b : Int} (hx : rg x a b) (h : 0 ≤ a) : ¬ x < 0 := by
  obtain ⟨x1, x2⟩ := hx
  intro q
  rw [Int32.lt_iff_toInt_lt] at q
  have h0 : (0 : Int32).toInt = 0 := rfl
  omega
theorem rg_cl {x : Int32} {a b : Int} {n : Nat} (hx : rg x a b) (h : b ≤ (n : Int)) : x.toNatClampNeg ≤ n := by
  have h1 := hx.2
  have e : x.toInt.toNat = x.toNatClampNeg := rfl
  omega
theorem rg_cl1 {x : Int32} {a b : Int} {n : Nat} (hx : rg x a b) (h : b < (n : Int) ∧ 0 < n) : x.toNatClampNeg < n := by
  have h1 := hx.2
  have e : x.toInt.toNat = x.toNatClampNeg := rfl
  omega
theorem rg_cp {x y : Int32} {a b c d : Int} {n : Nat} (hx : rg x a b) (hy : rg y c d) (h : 0 ≤ b ∧ 0 ≤ d ∧ b + d ≤ (n : Int)) : x.toNatClampNeg + y.toNatClampNeg ≤ n := by
  have h1 := hx.2
  have h2 := hy.2
  have e : x.toInt.toNat = x.toNatClampNeg := rfl
  have e2 : y.toInt.toNat = y.toNatClampNeg := rfl
  omega
theorem cpy_eq {r r1 : Nat → Nat → Int32} {a b N : Nat} {i : Int32} {lo hi : Int} (e : r1 = va_up r b (va_cpy (r a) (r b) (0 : Int32).toNatClampNeg 0 i.toNatClampNeg)) (h : rg i lo hi) (hn : lo = (N : Int)) : ∀ j, j < N → r1 b j = r a j := by
  intro j hj
  have h1 := h.1
  have e2 : i.toInt.toNat = i.toNatClampNeg := rfl
  have e3 : (0 : Int32).toNatClampNeg = 0 := rfl
  rw [e, va_up_self]
  unfold va_cpy
  rw [if_pos (by omega), e3]
  congr 1
  omega
theorem rp_w {r r1 : Nat → Nat → Int32} {a n : Nat} {i v : Int32} {lo hi : Int} (h : ∀ j, j < n → rg (r a j) lo hi) (e : r1 = va_up r a (upd (r a) i.toNatClampNeg v)) (hv : rg v lo hi) : ∀ j, j < n → rg (r1 a j) lo hi := by
  intro j hj
  rw [e, va_up_self]
  unfold upd
  split
  · exact hv
  · exact h j hj
theorem rp_o {r r1 : Nat → Nat → Int32} {a b n : Nat} {g : Nat → Int32} {lo hi : Int} (h : ∀ j, j < n → rg (r a j) lo hi) (e : r1 = va_up r b g) (hne : a ≠ b) : ∀ j, j < n → rg (r1 a j) lo hi := by
  intro j hj
  rw [e, va_up_ne _ _ hne]
  exact h j hj
theorem tg_ne {tg : Nat → Nat} {a b s t : Nat} (ha : tg a = s) (hb : tg b = t) (h : s ≠ t) : a ≠ b := fun q => h (by rw [← ha, ← hb, q])
/-! ===== shapes and ranges, by fields ===== -/
def ftp (f : Nat) : Nat × Nat × Nat := match f with
  | 1 => (0, 13, 40)
  | 2 => (0, 13, 40)
  | 3 => (0, 13, 40)
  | 4 => (0, 13, 40)
  | 5 => (0, 13, 40)
  | 6 => (0, 13, 40)
  | 7 => (0, 13, 40)
  | 8 => (0, 13, 40)
  | 9 => (0, 13, 40)
  | 11 => (0, 13, 5)
  | 12 => (0, 13, 5)
  | 13 => (0, 13, 5)
  | 14 => (0, 13, 50)
  | 15 => (0, 13, 50)
  | 33 => (1, 13, 30)
  | 34 => (1, 14, 30)
  | 68 => (2, 14, 600)
  | 69 => (2, 13, 40)
  | 70 => (2, 13, 40)
  | 71 => (2, 13, 40)
  | 72 => (2, 13, 40)
  | 73 => (2, 13, 40)
  | 74 => (2, 13, 40)
  | 75 => (2, 13, 40)
  | 76 => (2, 13, 40)
  | 77 => (2, 13, 40)
  | 78 => (2, 9, 0)
  | 79 => (2, 13, 40)
  | 80 => (2, 13, 5)
  | 81 => (2, 13, 40)
  | 82 => (2, 13, 32)
  | 83 => (2, 13, 21)
  | 97 => (3, 16, 10)
  | 99 => (3, 13, 30)
  | 100 => (3, 13, 30)
  | 101 => (3, 13, 30)
  | 102 => (3, 13, 6)
  | 103 => (3, 13, 40)
  | 128 => (4, 6, 0)
  | 131 => (4, 8, 0)
  | 133 => (4, 13, 40)
  | 161 => (5, 13, 5)
  | 162 => (5, 13, 5)
  | 163 => (5, 13, 40)
  | 165 => (5, 14, 12)
  | 166 => (5, 13, 60)
  | 167 => (5, 14, 12)
  | 192 => (6, 13, 300)
  | 225 => (7, 13, 200)
  | 226 => (7, 13, 200)
  | 227 => (7, 13, 200)
  | 228 => (7, 13, 200)
  | 229 => (7, 13, 12)
  | 230 => (7, 13, 12)
  | 231 => (7, 13, 12)
  | 232 => (7, 13, 12)
  | 233 => (7, 13, 12)
  | 257 => (8, 13, 20)
  | 258 => (8, 13, 21)
  | 259 => (8, 13, 300)
  | 288 => (9, 13, 40)
  | 289 => (9, 13, 40)
  | 290 => (9, 13, 40)
  | 325 => (10, 13, 40)
  | 326 => (10, 7, 0)
  | 327 => (10, 2, 0)
  | 328 => (10, 0, 0)
  | 329 => (10, 3, 0)
  | 330 => (10, 1, 0)
  | 331 => (10, 13, 40)
  | 332 => (10, 13, 5)
  | 352 => (11, 10, 0)
  | 353 => (11, 10, 0)
  | 354 => (11, 10, 0)
  | 355 => (11, 5, 0)
  | 356 => (11, 4, 0)
  | 384 => (12, 13, 12720)
  | 385 => (12, 13, 12720)
  | 386 => (12, 13, 12720)
  | 387 => (12, 13, 300)
  | 400 => (12, 13, 160)
  | 404 => (12, 14, 330)
  | 405 => (12, 15, 330)
  | 408 => (12, 13, 5)
  | 409 => (12, 13, 40)
  | 411 => (12, 13, 40)
  | 412 => (12, 15, 40)
  | 413 => (12, 13, 5)
  | 414 => (12, 13, 5)
  | _ => (99, 0, 0)
def rIt (f : Nat) : Int × Int := match f with
  | 0 => (0, 40)
  | 10 => (0, 5)
  | 32 => (0, 30)
  | 64 => (0, 5)
  | 65 => (0, 40)
  | 96 => (0, 10)
  | 98 => (0, 30)
  | 132 => (0, 300)
  | 134 => (0, 40)
  | 137 => (0, 1)
  | 138 => (0, 1)
  | 139 => (0, 1)
  | 164 => (0, 40)
  | 193 => (0, 300)
  | 195 => (0, 300)
  | 197 => (0, 300)
  | 224 => (0, 200)
  | 237 => (0, 20)
  | 256 => (0, 20)
  | 320 => (0, 600)
  | 403 => (0, 1)
  | _ => (-2147483648, 2147483647)
def rAt (f : Nat) : Int × Int := match f with
  | 1 => (0, 9)
  | 5 => (0, 300)
  | 15 => ((-2), 4)
  | 33 => (0, 39)
  | 69 => (0, 4)
  | 71 => (0, 31)
  | 72 => (0, 31)
  | 79 => ((-1), 39)
  | 80 => ((-1), 39)
  | 83 => (0, 20)
  | 99 => (0, 9)
  | 162 => (0, 4)
  | 163 => (0, 39)
  | 258 => (0, 300)
  | 325 => ((-1), 39)
  | 331 => (0, 39)
  | 405 => (0, 1)
  | 412 => (0, 1)
  | _ => (-2147483648, 2147483647)
abbrev cfl : List Nat := [64, 65, 224, 10, 0, 32, 320, 193]
def SH (σ : pq_S) (tg : Nat → Nat) : Prop := ∀ a ∈ σ.1, ∀ f, (ftp f).1 = σ.2.1 a → ∃ w, σ.2.2.1 f a = some w ∧ w ∈ σ.1 ∧ σ.2.1 w = (ftp f).2.1 ∧ (13 ≤ (ftp f).2.1 → σ.2.2.2 w = (ftp f).2.2 ∧ tg w = f)
theorem sh_o {σ : pq_S} {tg : Nat → Nat} (h : SH σ tg) (f : Nat) {ci kd ln a : Nat} (e : ftp f = (ci, kd, ln)) (hL : a ∈ σ.1) (hK : σ.2.1 a = ci) : ∃ w, σ.2.2.1 f a = some w ∧ w ∈ σ.1 ∧ σ.2.1 w = kd := by
  obtain ⟨w, h1, h2, h3, -⟩ := h a hL f (by rw [e]; exact hK.symm)
  exact ⟨w, h1, h2, by rw [h3, e]⟩
theorem sh_a {σ : pq_S} {tg : Nat → Nat} (h : SH σ tg) (f : Nat) {ci kd len a : Nat} (e : ftp f = (ci, kd, len)) (h13 : 13 ≤ kd) (hL : a ∈ σ.1) (hK : σ.2.1 a = ci) : ∃ w, σ.2.2.1 f a = some w ∧ w ∈ σ.1 ∧ σ.2.1 w = kd ∧ σ.2.2.2 w = len ∧ tg w = f := by
  obtain ⟨w, h1, h2, h3, h4⟩ := h a hL f (by rw [e]; exact hK.symm)
  have h5 := h4 (by rw [e]; exact h13)
  rw [e] at h5
  exact ⟨w, h1, h2, by rw [h3, e], h5.1, h5.2⟩
def TX (σ : pq_S) (I ri : Nat → Nat → Int32) : Prop := ∀ w ∈ σ.1, σ.2.1 w = 8 → ∀ q, σ.2.2.1 258 w = some q → ∀ c : Nat, (c : Int) < (I 256 w).toInt → (ri q c).toInt ≤ 299
def GS (tg : Nat → Nat) (σ : pq_S) (I ri : Nat → Nat → Int32) (rq : Nat → Nat → Option Nat) : Prop := (∀ f a, rg (I f a) (rIt f).1 (rIt f).2) ∧ (∀ q j, rg (ri q j) (rAt (tg q)).1 (rAt (tg q)).2) ∧ (∀ q j w, rq q j = some w → w ∈ σ.1 ∧ σ.2.1 w = 8) ∧ TX σ I ri
def GX (X : List Nat) (tg : Nat → Nat) (σ : pq_S) (I0 I ri : Nat → Nat → Int32) (rq : Nat → Nat → Option Nat) : Prop := GS tg σ I ri rq ∧ ∀ f, f ∈ cfl → f ∉ X → I f = I0 f
section GXS
variable {X Y : List Nat} {tg : Nat → Nat} {σ : pq_S} {I0 I I1 ri r1 : Nat → Nat → Int32} {rq q1 : Nat → Nat → Option Nat}
theorem GX.rI (h : GX X tg σ I0 I ri rq) (f : Nat) {lo hi : Int} {a : Nat} (e : rIt f = (lo, hi)) : rg (I f a) lo hi := by
  have h1 := h.1.1 f a
  rw [e] at h1
  exact h1
theorem GX.rR (h : GX X tg σ I0 I ri rq) {q j t : Nat} {lo hi : Int} (ht : tg q = t) (e : rAt t = (lo, hi)) : rg (ri q j) lo hi := by
  have h1 := h.1.2.1 q j
  rw [ht, e] at h1
  exact h1
theorem GX.rQ (h : GX X tg σ I0 I ri rq) {q j w : Nat} (e : rq q j = some w) : w ∈ σ.1 ∧ σ.2.1 w = 8 := h.1.2.2.1 q j w e
theorem GX.wI (h : GX X tg σ I0 I ri rq) (f : Nat) {lo hi : Int} {a : Nat} {v : Int32} (e : rIt f = (lo, hi)) (e1 : I1 = pq_u I f a v) (hv : rg v lo hi) (hf : (f ∉ cfl ∨ f ∈ X) ∧ f ≠ 256) : GX X tg σ I0 I1 ri rq := by
  subst e1
  refine ⟨⟨fun g b => ?_, h.1.2.1, h.1.2.2.1, ?_⟩, fun g hg hx => ?_⟩
  · by_cases hgf : g = f
    · subst hgf
      by_cases hb : b = a
      · subst hb
        rw [pq_us, e]
        exact hv
      · rw [pq_ua _ _ _ _ _ hb]
        exact h.1.1 g b
    · rw [pq_uf _ _ _ hgf]
      exact h.1.1 g b
  · intro w hw hk q hq c hc
    rw [pq_uf _ _ _ (Ne.symm hf.2)] at hc
    exact h.1.2.2.2 w hw hk q hq c hc
  · have hgf : g ≠ f := fun q => by
      subst q
      rcases hf.1 with z | z
      · exact z hg
      · exact hx z
    rw [pq_uf _ _ _ hgf]
    exact h.2 g hg hx
theorem GX.wR (h : GX X tg σ I0 I ri rq) (hSH : SH σ tg) {q t : Nat} {i v : Int32} {lo hi : Int} (ht : tg q = t) (e : rAt t = (lo, hi)) (e1 : r1 = va_up ri q (upd (ri q) i.toNatClampNeg v)) (hv : rg v lo hi) (hn : t ≠ 258) : GX X tg σ I0 I r1 rq := by
  subst e1
  refine ⟨⟨h.1.1, fun p j => ?_, h.1.2.2.1, ?_⟩, h.2⟩
  · by_cases hp : p = q
    · subst hp
      rw [va_up_self]
      unfold upd
      split
      · rw [ht, e]
        exact hv
      · exact h.1.2.1 p j
    · rw [va_up_ne _ _ hp]
      exact h.1.2.1 p j
  · intro w hw hk z hz c hc
    have hne : z ≠ q := fun y => by
      obtain ⟨z2, e2, -, -, -, e6⟩ := sh_a hSH 258 (ci := 8) (kd := 13) (len := 21) rfl (by decide) hw hk
      rw [hz] at e2
      have e3 := Option.some.inj e2
      subst e3
      rw [y, ht] at e6
      exact hn e6
    rw [va_up_ne _ _ hne]
    exact h.1.2.2.2 w hw hk z hz c hc
theorem GX.cR (h : GX X tg σ I0 I ri rq) (hSH : SH σ tg) {p q s t n : Nat} {i : Int32} {lo hi lo2 hi2 : Int} (hs : tg p = s) (e : rAt s = (lo, hi)) (ht : tg q = t) (e2 : rAt t = (lo2, hi2)) (e1 : r1 = va_up ri q (va_cpy (ri p) (ri q) i.toNatClampNeg 0 n)) (hn : (lo2 ≤ lo ∧ hi ≤ hi2) ∧ t ≠ 258) : GX X tg σ I0 I r1 rq := by
  subst e1
  refine ⟨⟨h.1.1, fun b j => ?_, h.1.2.2.1, ?_⟩, h.2⟩
  · by_cases hb : b = q
    · subst hb
      rw [va_up_self]
      unfold va_cpy
      split
      · rw [ht, e2]
        exact rg_w (h.rR hs e) hn.1
      · exact h.1.2.1 b j
    · rw [va_up_ne _ _ hb]
      exact h.1.2.1 b j
  · intro w hw hk z hz c hc
    have hne : z ≠ q := fun y => by
      obtain ⟨z2, e2, -, -, -, e6⟩ := sh_a hSH 258 (ci := 8) (kd := 13) (len := 21) rfl (by decide) hw hk
      rw [hz] at e2
      have e3 := Option.some.inj e2
      subst e3
      rw [y, ht] at e6
      exact hn.2 e6
    rw [va_up_ne _ _ hne]
    exact h.1.2.2.2 w hw hk z hz c hc
theorem GX.wQ (h : GX X tg σ I0 I ri rq) {q j v : Nat} (hL : v ∈ σ.1) (hK : σ.2.1 v = 8) (e1 : q1 = va_up rq q (va_up (rq q) j (some v))) : GX X tg σ I0 I ri q1 := by
  subst e1
  refine ⟨⟨h.1.1, h.1.2.1, fun p k w hw => ?_, h.1.2.2.2⟩, h.2⟩
  unfold va_up at hw
  split at hw
  · next e =>
    subst e
    split at hw
    · cases hw; exact ⟨hL, hK⟩
    · exact h.1.2.2.1 _ k w hw
  · exact h.1.2.2.1 p k w hw
theorem GX.wQn (h : GX X tg σ I0 I ri rq) {q j : Nat} (e1 : q1 = va_up rq q (va_up (rq q) j none)) : GX X tg σ I0 I ri q1 := by
  subst e1
  refine ⟨⟨h.1.1, h.1.2.1, fun p k w hw => ?_, h.1.2.2.2⟩, h.2⟩
  unfold va_up at hw
  split at hw
  · next e =>
    subst e
    split at hw
    · cases hw
    · exact h.1.2.2.1 _ k w hw
  · exact h.1.2.2.1 p k w hw
theorem GX.tr (h : GX X tg σ I0 I ri rq) (h1 : GX Y tg σ I I1 r1 q1) (hs : ∀ f ∈ Y, f ∈ X) : GX X tg σ I0 I1 r1 q1 := ⟨h1.1, fun f hf hx => (h1.2 f hf (fun q => hx (hs f q))).trans (h.2 f hf hx)⟩
theorem GX.tx (h : GX X tg σ I0 I ri rq) {w q : Nat} {c : Int32} (hL : w ∈ σ.1) (hK : σ.2.1 w = 8) (hR : σ.2.2.1 258 w = some q) (hT : tg q = 258) (h0 : 0 ≤ c.toInt) (h1 : c.toInt < (I 256 w).toInt) : rg (ri q c.toNatClampNeg) 0 299 := by
  have e2 : c.toInt.toNat = c.toNatClampNeg := rfl
  exact ⟨(h.rR (lo := 0) (hi := 300) hT rfl).1, h.1.2.2.2 w hL hK q hR _ (by omega)⟩
end GXS
theorem q_gen {p : Program} {l : Launch} {e : Env} {R : Room} {s : State} {m : MethodId} {args : Array Value} {below : List Frame} {meth : Method} {c : Code} {H : Heap} {locs : List Loc} {cells slots : Nat} {Q : State → Prop} {g : JFrame} (k : ∀ Q' : State → Prop, Q' = Q → W p l e R s m args below meth c H locs cells slots Q' g) : W p l e R s m args below meth c H locs cells slots Q g := k Q rfl
theorem min_le (x y : Int32) : (if y < x then y else x).toInt ≤ x.toInt ∧ (if y < x then y else x).toInt ≤ y.toInt := by
  split
  · next q => rw [Int32.lt_iff_toInt_lt] at q; exact ⟨by omega, by omega⟩
  · next q => have q := Int32.le_iff_toInt_le.mp (Int32.not_lt.mp q); exact ⟨by omega, by omega⟩
section PQR
variable {p : Program} {l : Launch} {e : Env} {R : Room} {s : State} {m : MethodId} {args : Array Value} {below : List Frame} {meth : Method} {c : Code} {H : Heap} {locs : List Loc} {cells slots : Nat} {Q : State → Prop}
variable {cc : ByteArray} {pc : Nat} {ls : Array Slot} {rest : List Value} {D : va_G} {A : Nat → Prop} {a : Nat} {t : pq_T} {σ : pq_S} {H0 : Heap}
variable {I : Nat → Nat → Int32} {J : Nat → Nat → Int64} {ri : Nat → Nat → Int32} {rj : Nat → Nat → Int64} {rq : Nat → Nat → Option Nat}
theorem pq_Ec {t : pq_T} {σ : pq_S} {I : Nat → Nat → Int32} {J : Nat → Nat → Int64} {ri : Nat → Nat → Int32} {rj : Nat → Nat → Int64} {rq : Nat → Nat → Option Nat} {a b : Nat} {v : Nat → Option Nat} (h : b ≠ a) : pq_E t σ (I, J, ri, rj, va_up rq a v) b = pq_E t σ (I, J, ri, rj, rq) b := by
  unfold pq_E
  split <;> simp only [va_up_ne _ _ h]
theorem pl_q (hx : p.tables.exec = Jvm.exec) (hb : c.code = cc) (hK : va_K D vwCl (pq_ty t) s) (hP : va_P D vwCl (pq_P t σ (I, J, ri, rj, rq)) H) (hL : a ∈ σ.1) (hk : σ.2.1 a = 16) {n : Nat} (hn : σ.2.2.2 a = n) {i : Int32} (hin : vp_in i n) (hdg : decode cc pc = .ok (.aaload, 1))
    (kk : W p l e R s m args below meth c H locs cells slots Q (F0 m (pc + 1) ls (va_rf (rq a i.toNatClampNeg) :: rest))) : W p l e R s m args below meth c H locs cells slots Q (F0 m pc ls (.int i :: .ref a :: rest)) := by
  subst hn
  obtain ⟨q, hq⟩ := pq_in (t := t) (μ := (I, J, ri, rj, rq)) hL
  rw [pq_oQ hk] at hq
  exact va_aldq hx hb hK hP q 3 hq rfl hin hdg kk
theorem pt_q (hx : p.tables.exec = Jvm.exec) (hb : c.code = cc) (hK : va_K D vwCl (pq_ty t) s) (hP : va_P D vwCl (pq_P t σ (I, J, ri, rj, rq)) H) (hD : va_D A (pq_P t σ (I, J, ri, rj, rq))) (hS : va_S A H0 H locs) (hL : a ∈ σ.1) (hk : σ.2.1 a = 16) {n v : Nat} (hn : σ.2.2.2 a = n) (hLv : v ∈ σ.1) (hkv : σ.2.1 v = 8) {i : Int32} (hin : vp_in i n) (hdg : decode cc pc = .ok (.aastore, 1))
    (kk : ∀ (q1 : Nat → Nat → Option Nat) (H1 : Heap) (locs1 : List Loc), q1 = va_up rq a (va_up (rq a) i.toNatClampNeg (some v)) → va_P D vwCl (pq_P t σ (I, J, ri, rj, q1)) H1 → va_D A (pq_P t σ (I, J, ri, rj, q1)) → va_S A H0 H1 locs1 → W p l e R s m args below meth c H1 locs1 cells slots Q (F0 m (pc + 1) ls rest)) : W p l e R s m args below meth c H locs cells slots Q (F0 m pc ls (.ref v :: .int i :: .ref a :: rest)) := by
  subst hn
  obtain ⟨q, hq⟩ := pq_in (t := t) (μ := (I, J, ri, rj, rq)) hL
  obtain ⟨qv, hqv⟩ := pq_in (t := t) (μ := (I, J, ri, rj, rq)) hLv
  have hq2 := hq
  rw [pq_oQ hk] at hq2
  rw [pq_o (by decide) hkv] at hqv
  have he : (pq_P t σ (I, J, ri, rj, rq)).set q (a, .inl (t.2.2.2, σ.2.2.2 a, .inr (.inr (.inr (.inr (va_up (rq a) i.toNatClampNeg (some v))))))) = pq_P t σ (I, J, ri, rj, va_up rq a (va_up (rq a) i.toNatClampNeg (some v))) := pq_set hD hL hq (by rw [pq_oQ hk]; simp only [va_up_self]) (fun b hb => pq_Ec hb)
  refine va_astq hx hb hK hP hD hS q 3 qv 8 hq2 rfl hqv rfl hin hdg (fun H1 locs1 hP1 hD1 hS1 => ?_)
  exact kk _ H1 locs1 rfl (he ▸ hP1) (he ▸ hD1) hS1
theorem pt_qn (hx : p.tables.exec = Jvm.exec) (hb : c.code = cc) (hK : va_K D vwCl (pq_ty t) s) (hP : va_P D vwCl (pq_P t σ (I, J, ri, rj, rq)) H) (hD : va_D A (pq_P t σ (I, J, ri, rj, rq))) (hS : va_S A H0 H locs) (hL : a ∈ σ.1) (hk : σ.2.1 a = 16) {n : Nat} (hn : σ.2.2.2 a = n) {i : Int32} (hin : vp_in i n) (hdg : decode cc pc = .ok (.aastore, 1))
    (kk : ∀ (q1 : Nat → Nat → Option Nat) (H1 : Heap) (locs1 : List Loc), q1 = va_up rq a (va_up (rq a) i.toNatClampNeg none) → va_P D vwCl (pq_P t σ (I, J, ri, rj, q1)) H1 → va_D A (pq_P t σ (I, J, ri, rj, q1)) → va_S A H0 H1 locs1 → W p l e R s m args below meth c H1 locs1 cells slots Q (F0 m (pc + 1) ls rest)) : W p l e R s m args below meth c H locs cells slots Q (F0 m pc ls (.null :: .int i :: .ref a :: rest)) := by
  subst hn
  obtain ⟨q, hq⟩ := pq_in (t := t) (μ := (I, J, ri, rj, rq)) hL
  have hq2 := hq
  rw [pq_oQ hk] at hq2
  have he : (pq_P t σ (I, J, ri, rj, rq)).set q (a, .inl (t.2.2.2, σ.2.2.2 a, .inr (.inr (.inr (.inr (va_up (rq a) i.toNatClampNeg none)))))) = pq_P t σ (I, J, ri, rj, va_up rq a (va_up (rq a) i.toNatClampNeg none)) := pq_set hD hL hq (by rw [pq_oQ hk]; simp only [va_up_self]) (fun b hb => pq_Ec hb)
  refine va_astqN hx hb hK hP hD hS q 3 hq2 rfl hin hdg (fun H1 locs1 hP1 hD1 hS1 => ?_)
  exact kk _ H1 locs1 rfl (he ▸ hP1) (he ▸ hD1) hS1
end PQR
theorem nl_0 {U : State} (hN : pq_N U) : va_Nw (.methodLinkNest RX7 55 yX11_fill "RingsUnder") U := hN.1 _ (List.mem_of_getElem? (i := 0) rfl)
theorem nl_1 {U : State} (hN : pq_N U) : va_Nw (.methodLinkNest RX2 45 yX9_init "RingsUnder") U := hN.1 _ (List.mem_of_getElem? (i := 1) rfl)
theorem nl_2 {U : State} (hN : pq_N U) : va_Nw (.methodLinkNest RX2 65 yX11_fill "RingsUnder") U := hN.1 _ (List.mem_of_getElem? (i := 2) rfl)
theorem nl_3 {U : State} (hN : pq_N U) : va_Nw (.methodLinkNest RX10 38 yX0_init "RingsUnder") U := hN.1 _ (List.mem_of_getElem? (i := 3) rfl)
theorem nl_4 {U : State} (hN : pq_N U) : va_Nw (.methodLinkNest RX10 45 yX3_init "RingsUnder") U := hN.1 _ (List.mem_of_getElem? (i := 4) rfl)
theorem nl_5 {U : State} (hN : pq_N U) : va_Nw (.methodLinkNest RX10 52 yX1_init "RingsUnder") U := hN.1 _ (List.mem_of_getElem? (i := 5) rfl)
theorem nl_6 {U : State} (hN : pq_N U) : va_Nw (.methodLinkNest RX10 63 yX11_fill "RingsUnder") U := hN.1 _ (List.mem_of_getElem? (i := 6) rfl)
theorem nl_7 {U : State} (hN : pq_N U) : va_Nw (.methodLinkNest RX11 24 yX5_init "RingsUnder") U := hN.1 _ (List.mem_of_getElem? (i := 7) rfl)
theorem nl_8 {U : State} (hN : pq_N U) : va_Nw (.methodLinkNest RX11 31 yX4_init "RingsUnder") U := hN.1 _ (List.mem_of_getElem? (i := 8) rfl)
theorem nl_9 {U : State} (hN : pq_N U) : va_Nw (.methodLinkNest RX4 11 yX6_init "RingsUnder") U := hN.1 _ (List.mem_of_getElem? (i := 9) rfl)
theorem nl_10 {U : State} (hN : pq_N U) : va_Nw (.methodLinkNest RX4 27 yX8_init "RingsUnder") U := hN.1 _ (List.mem_of_getElem? (i := 10) rfl)
theorem nl_11 {U : State} (hN : pq_N U) : va_Nw (.methodLinkNest RX2 101 yX11_hasBit "RingsUnder") U := hN.1 _ (List.mem_of_getElem? (i := 11) rfl)
theorem nl_12 {U : State} (hN : pq_N U) : va_Nw (.methodLinkNest RX3 65 yX11_hasBit "RingsUnder") U := hN.1 _ (List.mem_of_getElem? (i := 12) rfl)
theorem nl_13 {U : State} (hN : pq_N U) : va_Nw (.methodLinkNest RX0 73 yX11_hasBit "RingsUnder") U := hN.1 _ (List.mem_of_getElem? (i := 13) rfl)
theorem nl_14 {U : State} (hN : pq_N U) : va_Nw (.methodLinkNest RX9 29 yX11_hasBit "RingsUnder") U := hN.1 _ (List.mem_of_getElem? (i := 14) rfl)
theorem nl_15 {U : State} (hN : pq_N U) : va_Nw (.methodLinkNest RX0 58 yX11_copy "RingsUnder") U := hN.1 _ (List.mem_of_getElem? (i := 15) rfl)
theorem nl_16 {U : State} (hN : pq_N U) : va_Nw (.methodLinkNest RX0 113 yX11_fill "RingsUnder") U := hN.1 _ (List.mem_of_getElem? (i := 16) rfl)
theorem nl_17 {U : State} (hN : pq_N U) : va_Nw (.methodLinkNest RX10 76 yX11_copy "RingsUnder") U := hN.1 _ (List.mem_of_getElem? (i := 17) rfl)
theorem nl_18 {U : State} (hN : pq_N U) : va_Nw (.methodLinkNest RX7 62 yX11_copy "RingsUnder") U := hN.1 _ (List.mem_of_getElem? (i := 18) rfl)
theorem nl_19 {U : State} (hN : pq_N U) : va_Nw (.methodLinkNest RX2 89 yX11_copy "RingsUnder") U := hN.1 _ (List.mem_of_getElem? (i := 19) rfl)
theorem nl_20 {U : State} (hN : pq_N U) : va_Nw (.methodLinkNest RX9 21 yX11_copy "RingsUnder") U := hN.1 _ (List.mem_of_getElem? (i := 20) rfl)
theorem nl_21 {U : State} (hN : pq_N U) : va_Nw (.methodLinkNest RX3 40 yX11_copy "RingsUnder") U := hN.1 _ (List.mem_of_getElem? (i := 21) rfl)
theorem nl_22 {U : State} (hN : pq_N U) : va_Nw (.methodLinkNest RX1 23 yX11_copy "RingsUnder") U := hN.1 _ (List.mem_of_getElem? (i := 22) rfl)
theorem nl_23 {U : State} (hN : pq_N U) : va_Nw (.methodLinkNest RX5 60 yX11_copy "RingsUnder") U := hN.1 _ (List.mem_of_getElem? (i := 23) rfl)
theorem nl_24 {U : State} (hN : pq_N U) : va_Nw (.methodLinkNest RX10 226 yX11_hasBit "RingsUnder") U := hN.1 _ (List.mem_of_getElem? (i := 24) rfl)
theorem nl_25 {U : State} (hN : pq_N U) : va_Nw (.methodLinkNest RX1 33 yX11_hasBit "RingsUnder") U := hN.1 _ (List.mem_of_getElem? (i := 25) rfl)
