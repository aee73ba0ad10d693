/-! ===== pure: AREA of the class: how wide REACH is (behind pb) ===== -/
section PA
variable {I : Nat → Int32} {J : Nat → Int64} {rj : Nat → Nat → Int64} {rq : Nat → Nat → Option Nat}
theorem sq_i {x : Int32} {j : Nat} (hx : x.toInt = (j : Int)) (hj : j ≤ 100) : (x * x).toInt = ((j * j : Nat) : Int) := by
  have h := Nat.mul_le_mul hj hj
  have e : (j : Int) * (j : Int) = ((j * j : Nat) : Int) := by rw [Int.natCast_mul]
  have := i_mul hx hx (by rw [e]; omega) (by rw [e]; omega)
  rw [this, e]
/-- the greatest w by d of REACH -/
def GW (R d w : Nat) : Prop := w * w + d * d ≤ R * R ∧ R * R < (w + 1) * (w + 1) + d * d
theorem GW_n {R d w x : Nat} (h : GW R d w) : x ≤ w ↔ x * x + d * d ≤ R * R := by
  obtain ⟨h1, h2⟩ := h
  constructor
  · intro q
    have := Nat.mul_le_mul q q
    omega
  · intro q
    by_cases z : x ≤ w
    · exact z
    · have := Nat.mul_le_mul (show w + 1 ≤ x by omega) (show w + 1 ≤ x by omega)
      omega
theorem dn_n {x : Int32} {j : Nat} (hx : x.toInt = ((j + 1 : Nat) : Int)) (hj : j ≤ 1000) : (x + Int32.ofInt (-1)).toInt = (j : Int) := by
  have := i_add hx (show (Int32.ofInt (-1)).toInt = -1 by decide) (by omega) (by omega)
  rw [this]
  omega
theorem ms_18 {a0 x1 : Int32} {R d : Nat} (hR : a0.toInt = (R : Int)) (hR2 : R ≤ 20) (hd : x1.toInt = (d : Int)) (hd2 : d ≤ R) {r : Nat → Nat → Int32} {k : Int32 → Int32 → (Nat → Nat → Int32) → vM} : ∀ (n : Nat) (x : Int32) (j : Nat), x.toInt = (j : Int) → j ≤ 20 → j < n → R * R < (j + 1) * (j + 1) + d * d → ∃ (y : Int32) (w : Nat), g_X2_measure_L18 a0 I J rj rq x1 r k n x = g_X2_measure_K41 x1 r k y ∧ y.toInt = (w : Int) ∧ w ≤ j ∧ GW R d w := by
  have k0 : (0 : Int32).toInt = 0 := by decide
  intro n
  induction n with
  | zero => intro _ _ _ _ h; exact absurd h (Nat.not_lt_zero _)
  | succ n ih =>
    intro x j hx hj hn hg
    rw [g_X2_measure_L18_e]
    try simp only [↓ap1_n]
    by_cases q : x ≤ 0
    · rw [if_pos q]
      have q1 := Int32.le_iff_toInt_le.mp q
      rw [k0, hx] at q1
      have j0 : j = 0 := by omega
      have := Nat.mul_le_mul hd2 hd2
      refine ⟨x, j, rfl, hx, Nat.le_refl _, ?_, hg⟩
      rw [j0]
      omega
    · have q1 : 1 ≤ j := by
        have z : ¬ x.toInt ≤ (0 : Int32).toInt := fun z => q (Int32.le_iff_toInt_le.mpr z)
        rw [k0, hx] at z
        omega
      rw [if_neg q]
      have s1 := sq_i hx (by omega)
      have s2 := sq_i hd (by omega)
      have s3 := sq_i hR (by omega)
      have b1 := Nat.mul_le_mul hj hj
      have b2 := Nat.mul_le_mul (Nat.le_trans hd2 hR2) (Nat.le_trans hd2 hR2)
      have s4 := i_add s1 s2 (by omega) (by omega)
      have iff1 : x * x + x1 * x1 ≤ a0 * a0 ↔ j * j + d * d ≤ R * R := by
        rw [Int32.le_iff_toInt_le, s4, s3]
        omega
      by_cases c : x * x + x1 * x1 ≤ a0 * a0
      · rw [if_pos c]
        exact ⟨x, j, rfl, hx, Nat.le_refl _, iff1.mp c, hg⟩
      · rw [if_neg c]
        have c1 : ¬ j * j + d * d ≤ R * R := fun z => c (iff1.mpr z)
        obtain ⟨i, hi⟩ : ∃ i, j = i + 1 := ⟨j - 1, by omega⟩
        rw [hi] at hx c1
        obtain ⟨y, w, e1, e2, e3, e4⟩ := ih (x + Int32.ofInt (-1)) i (dn_n hx (by omega)) (by omega) (by omega) (by omega)
        exact ⟨y, w, e1, e2, by omega, e4⟩
theorem ms_4 {a0 : Int32} {R : Nat} (hR : a0.toInt = (R : Int)) (hR2 : R ≤ 20) : ∀ (m : Nat) (x x1 : Int32) (j d : Nat) (r : Nat → Nat → Int32), x.toInt = (j : Int) → j ≤ 20 → x1.toInt = (d : Int) → d ≤ R + 1 → R + 1 - d < m → R * R < (j + 1) * (j + 1) + d * d → ∃ r' : Nat → Nat → Int32, g_X2_measure_L4 a0 I J rj rq m x x1 r = (I, J, r', rj, rq) ∧ (∀ t, t ≠ 83 → r' t = r t) ∧ (∀ i, i < d → r' 83 i = r 83 i) ∧ ∀ i, d ≤ i → i ≤ R → ∃ w : Nat, (r' 83 i).toInt = (w : Int) ∧ w ≤ 20 ∧ GW R i w := by
  intro m
  induction m with
  | zero => intro _ _ _ _ _ _ _ _ _ h; exact absurd h (Nat.not_lt_zero _)
  | succ m ih =>
    intro x x1 j d r hx hj hd hd2 hm hg
    rw [g_X2_measure_L4_e]
    try simp only [↓ap1_n]
    by_cases q : a0 < x1
    · have q1 := (lt_n hR hd).mp q
      rw [if_pos q]
      exact ⟨r, rfl, fun _ _ => rfl, fun _ _ => rfl, fun i h1 h2 => absurd h2 (by omega)⟩
    · have q1 : ¬ R < d := fun z => q ((lt_n hR hd).mpr z)
      rw [if_neg q]
      obtain ⟨y, w, e1, e2, e3, e4⟩ := ms_18 (I := I) (J := J) (rj := rj) (rq := rq) hR hR2 hd (by omega) (r := r) (k := g_X2_measure_L4 a0 I J rj rq m) (((x).toInt - 0).toNat + 1) x j hx hj (by rw [hx]; omega) hg
      rw [e1, g_X2_measure_K41_e]
      try simp only [↓ap1_n]
      have g2 : R * R < (w + 1) * (w + 1) + (d + 1) * (d + 1) := by
        have h1 := e4.2
        have h2 : d * d ≤ (d + 1) * (d + 1) := Nat.mul_le_mul (Nat.le_succ d) (Nat.le_succ d)
        omega
      obtain ⟨r', f1, f2, f3, f4⟩ := ih y (x1 + Int32.ofInt 1) w (d + 1) (va_up r 83 (upd (r 83) x1.toNatClampNeg y)) e2 (by omega) (up_i hd (by omega)) (by omega) (by omega) g2
      refine ⟨r', f1, fun t ht => (f2 t ht).trans (va_up_ne _ _ ht), fun i hi => ?_, fun i h1 h2 => ?_⟩
      · rw [f3 i (by omega), va_up_self, at_n hd, upd_n _ _ (by omega)]
      · by_cases z : i = d
        · refine ⟨w, ?_, by omega, ?_⟩
          · rw [z, f3 d (by omega), va_up_self, at_n hd, upd_s]; exact e2
          · rw [z]; exact e4
        · exact f4 i (by omega) h2
/-- how wide REACH is at each distance -/
theorem measure_v {a0 : Int32} {R : Nat} (hR : a0.toInt = (R : Int)) (hR2 : R ≤ 20) {r : Nat → Nat → Int32} : ∃ r' : Nat → Nat → Int32, g_X2_measure a0 I J r rj rq = (I, J, r', rj, rq) ∧ (∀ t, t ≠ 83 → r' t = r t) ∧ ∀ i, i ≤ R → ∃ w : Nat, (r' 83 i).toInt = (w : Int) ∧ w ≤ 20 ∧ GW R i w := by
  have k0 : (0 : Int32).toInt = 0 := by decide
  rw [g_X2_measure_e]
  obtain ⟨r', e1, e2, _, e4⟩ := ms_4 (I := I) (J := J) (rj := rj) (rq := rq) hR hR2 ((21 - (0 : Int32).toInt).toNat + 1) a0 0 R 0 r hR hR2 k0 (by omega) (by rw [k0]; omega) (by
    have : R * R < (R + 1) * (R + 1) := Nat.mul_lt_mul_of_lt_of_lt (Nat.lt_succ_self R) (Nat.lt_succ_self R)
    omega)
  exact ⟨r', e1, e2, fun i h => e4 i (Nat.zero_le _) h⟩
/-! the places that a CELL marks -/
def ad (a b : Nat) : Nat := (a - b) + (b - a)
theorem msk_l : ∀ f, f < 32 → ∀ i, i < 32 → b3 ((-1 : Int32) <<< (nI f &&& 31)) i = decide (f ≤ i) := by unfold b3; decide +kernel
theorem msk_r : ∀ t, t < 32 → ∀ i, i < 32 → b3 (((-1 : Int32).toUInt32 >>> ((nI t).toUInt32 &&& Int32.toUInt32 31)).toInt32) i = decide (i + t ≤ 31) := by unfold b3; decide +kernel
theorem to_nI {x : Int32} {f : Nat} (h : x.toInt = (f : Int)) (hf : f ≤ 1000) : x = nI f := Int32.toInt_inj.mp (by rw [h, nI_toInt (n := f) (by omega)])
theorem max_v {x : Int32} {z : Int} (h : x.toInt = z) : ((if (0 : Int32) < x then x else 0) : Int32).toInt = (z.toNat : Int) := by
  have k0 : (0 : Int32).toInt = 0 := by decide
  by_cases q : (0 : Int32) < x
  · have q1 := Int32.lt_iff_toInt_lt.mp q
    rw [k0, h] at q1
    rw [if_pos q, h]
    omega
  · have q1 : ¬ (0 : Int32).toInt < x.toInt := fun y => q (Int32.lt_iff_toInt_lt.mpr y)
    rw [k0, h] at q1
    rw [if_neg q, k0]
    omega
theorem min_v {x : Int32} {z : Nat} (h : x.toInt = (z : Int)) : ((if x < (31 : Int32) then x else 31) : Int32).toInt = ((min 31 z : Nat) : Int) := by
  have k0 : (31 : Int32).toInt = 31 := by decide
  by_cases q : x < (31 : Int32)
  · have q1 := Int32.lt_iff_toInt_lt.mp q
    rw [k0, h] at q1
    rw [if_pos q, h]
    omega
  · have q1 : ¬ x.toInt < (31 : Int32).toInt := fun y => q (Int32.lt_iff_toInt_lt.mpr y)
    rw [k0, h] at q1
    rw [if_neg q, k0]
    omega
theorem abs_v {x : Int32} {a b : Nat} (h : x.toInt = (a : Int) - (b : Int)) (ha : a ≤ 1000) (hb : b ≤ 1000) : ((if (0 : Int32) ≤ x then x else 0 - x) : Int32).toInt = (ad a b : Int) := by
  have k0 : (0 : Int32).toInt = 0 := by decide
  unfold ad
  by_cases q : (0 : Int32) ≤ x
  · have q1 := Int32.le_iff_toInt_le.mp q
    rw [k0, h] at q1
    rw [if_pos q, h]
    omega
  · have q1 : ¬ (0 : Int32).toInt ≤ x.toInt := fun y => q (Int32.le_iff_toInt_le.mpr y)
    rw [k0, h] at q1
    rw [if_neg q]
    have := i_sub k0 h (by omega) (by omega)
    rw [this]
    omega
theorem mk_23 {a0 a1 x7 : Int32} {X Y R t7 : Nat} (hX : a0.toInt = (X : Int)) (hX2 : X ≤ 31) (hY : a1.toInt = (Y : Int)) (hY2 : Y ≤ 31) (h7 : x7.toInt = (t7 : Int)) (h72 : t7 ≤ 31) (h73 : t7 ≤ Y + R) (hR2 : R ≤ 20) : ∀ (n : Nat) (x : Int32) (j : Nat) (r : Nat → Nat → Int32), x.toInt = (j : Int) → j ≤ t7 + 1 → Y ≤ j + R → t7 + 1 - j < n → (∀ i, i ≤ R → ∃ w : Nat, (r 83 i).toInt = (w : Int) ∧ w ≤ 20 ∧ GW R i w) → ∃ r' : Nat → Nat → Int32, g_X2_mark_L23 a0 a1 I J rj rq x7 n x r = (I, J, r', rj, rq) ∧ (∀ t, t ≠ 82 → r' t = r t) ∧ ∀ k i, k < 32 → i < 32 → b3 (r' 82 k) i = (b3 (r 82 k) i || decide (j ≤ k ∧ k ≤ t7 ∧ ad i X * ad i X + ad k Y * ad k Y ≤ R * R)) := by
  intro n
  induction n with
  | zero => intro _ _ _ _ _ _ h; exact absurd h (Nat.not_lt_zero _)
  | succ n ih =>
    intro x j r hx hj hlo hn hW
    rw [g_X2_mark_L23_e]
    try simp only [↓ap1_n, g_X2_mark_K102]
    by_cases q : x7 < x
    · have q1 := (lt_n h7 hx).mp q
      rw [if_pos q]
      refine ⟨r, rfl, fun _ _ => rfl, fun k i _ _ => ?_⟩
      rw [decide_eq_false (show ¬ (j ≤ k ∧ k ≤ t7 ∧ ad i X * ad i X + ad k Y * ad k Y ≤ R * R) from fun z => by have := z.1; have := z.2.1; omega), Bool.or_false]
    · have q1 : ¬ t7 < j := fun z => q ((lt_n h7 hx).mpr z)
      rw [if_neg q]
      have hd : ((if (0 : Int32) ≤ x - a1 then x - a1 else 0 - (x - a1)) : Int32).toInt = (ad j Y : Int) := abs_v (i_sub hx hY (by omega) (by omega)) (by omega) (by omega)
      generalize (if (0 : Int32) ≤ x - a1 then x - a1 else 0 - (x - a1) : Int32) = dd at hd ⊢
      have had : ad j Y ≤ R := by unfold ad; omega
      have k21 : (21 : Int32).toInt = ((21 : Nat) : Int) := by decide
      obtain ⟨w, w1, w2, w3⟩ := hW (ad j Y) had
      rw [if_neg (show ¬ (21 : Int32) ≤ dd from fun z => by have := (le_n k21 hd).mp z; omega), at_n hd, at_n hx]
      have hf := max_v (i_sub hX w1 (by omega) (by omega))
      have ht := min_v (z := X + w) ((i_add hX w1 (by omega) (by omega)).trans (by omega))
      generalize (if (0 : Int32) < a0 - r 83 (ad j Y) then a0 - r 83 (ad j Y) else 0 : Int32) = ff at hf ⊢
      generalize (if a0 + r 83 (ad j Y) < (31 : Int32) then a0 + r 83 (ad j Y) else 31 : Int32) = tt at ht ⊢
      have hs : ((31 : Int32) - tt).toInt = ((31 - min 31 (X + w) : Nat) : Int) := by
        have := i_sub (show (31 : Int32).toInt = 31 by decide) ht (by omega) (by omega)
        rw [this]
        omega
      rw [to_nI (f := ((X : Int) - (w : Int)).toNat) hf (by omega), to_nI hs (by omega)]
      generalize hv : (r 82 j ||| ((-1 : Int32) <<< (nI ((X : Int) - (w : Int)).toNat &&& 31) &&& ((-1 : Int32).toUInt32 >>> ((nI (31 - min 31 (X + w))).toUInt32 &&& Int32.toUInt32 31)).toInt32) : Int32) = v
      have bv : ∀ i, i < 32 → b3 v i = (b3 (r 82 j) i || decide (ad i X * ad i X + ad j Y * ad j Y ≤ R * R)) := fun i hi => by
        rw [← hv, b_or, b_and, msk_l _ (by omega) i hi, msk_r _ (by omega) i hi, ← Bool.decide_and]
        have z : (((X : Int) - (w : Int)).toNat ≤ i ∧ i + (31 - min 31 (X + w)) ≤ 31) ↔ ad i X * ad i X + ad j Y * ad j Y ≤ R * R := by
          rw [← GW_n w3]
          unfold ad
          omega
        rw [decide_eq_decide.mpr z]
      obtain ⟨r', e1, e2, e3⟩ := ih (x + Int32.ofInt 1) (j + 1) (va_up r 82 (upd (r 82) j v)) (up_i hx (by omega)) (by omega) (by omega) (by omega) (by rw [va_up_ne _ _ (show (83 : Nat) ≠ 82 by decide)]; exact hW)
      refine ⟨r', e1, fun t h => (e2 t h).trans (va_up_ne _ _ h), fun k i hk hi => ?_⟩
      rw [e3 k i hk hi, va_up_self]
      by_cases z : k = j
      · rw [z, upd_s, bv i hi, decide_eq_false (show ¬ (j + 1 ≤ j ∧ j ≤ t7 ∧ ad i X * ad i X + ad j Y * ad j Y ≤ R * R) from fun y => by have := y.1; omega), Bool.or_false]
        have e : (ad i X * ad i X + ad j Y * ad j Y ≤ R * R) ↔ (j ≤ j ∧ j ≤ t7 ∧ ad i X * ad i X + ad j Y * ad j Y ≤ R * R) := ⟨fun y => ⟨Nat.le_refl _, by omega, y⟩, fun y => y.2.2⟩
        rw [decide_eq_decide.mpr e]
      · rw [upd_n _ _ z]
        have e : (j + 1 ≤ k ∧ k ≤ t7 ∧ ad i X * ad i X + ad k Y * ad k Y ≤ R * R) ↔ (j ≤ k ∧ k ≤ t7 ∧ ad i X * ad i X + ad k Y * ad k Y ≤ R * R) := ⟨fun y => ⟨by have := y.1; omega, y.2⟩, fun y => ⟨by have := y.1; omega, y.2⟩⟩
        rw [decide_eq_decide.mpr e]
theorem mark_v {a0 a1 a2 : Int32} {X Y R : Nat} (hX : a0.toInt = (X : Int)) (hX2 : X ≤ 31) (hY : a1.toInt = (Y : Int)) (hY2 : Y ≤ 31) (hR : a2.toInt = (R : Int)) (hR2 : R ≤ 20) {r : Nat → Nat → Int32} (hW : ∀ i, i ≤ R → ∃ w : Nat, (r 83 i).toInt = (w : Int) ∧ w ≤ 20 ∧ GW R i w) : ∃ r' : Nat → Nat → Int32, g_X2_mark a0 a1 a2 I J r rj rq = (I, J, r', rj, rq) ∧ (∀ t, t ≠ 82 → r' t = r t) ∧ ∀ k i, k < 32 → i < 32 → b3 (r' 82 k) i = (b3 (r 82 k) i || decide (ad i X * ad i X + ad k Y * ad k Y ≤ R * R)) := by
  rw [g_X2_mark_e]
  try simp only [↓ap1_n]
  have hlo := max_v (i_sub hY hR (by omega) (by omega))
  have hhi := min_v (z := Y + R) ((i_add hY hR (by omega) (by omega)).trans (by omega))
  generalize (if (0 : Int32) < a1 - a2 then a1 - a2 else 0 : Int32) = lo at hlo ⊢
  generalize (if a1 + a2 < (31 : Int32) then a1 + a2 else 31 : Int32) = hi at hhi ⊢
  obtain ⟨r', e1, e2, e3⟩ := mk_23 (I := I) (J := J) (rj := rj) (rq := rq) hX hX2 hY hY2 hhi (by omega) (by omega) hR2 ((32 - lo.toInt).toNat + 1) lo ((Y : Int) - (R : Int)).toNat r hlo (by omega) (by omega) (by rw [hlo]; omega) hW
  refine ⟨r', e1, e2, fun k i hk hi => ?_⟩
  rw [e3 k i hk hi]
  have e : (((Y : Int) - (R : Int)).toNat ≤ k ∧ k ≤ min 31 (Y + R) ∧ ad i X * ad i X + ad k Y * ad k Y ≤ R * R) ↔ ad i X * ad i X + ad k Y * ad k Y ≤ R * R := ⟨fun y => y.2.2, fun y => by
    have h : ad k Y ≤ R := by
      by_cases z : ad k Y ≤ R
      · exact z
      · have := Nat.mul_le_mul (show R + 1 ≤ ad k Y by omega) (show R + 1 ≤ ad k Y by omega)
        have : R * R < (R + 1) * (R + 1) := Nat.mul_lt_mul_of_lt_of_lt (Nat.lt_succ_self R) (Nat.lt_succ_self R)
        omega
    unfold ad at h
    exact ⟨by omega, by omega, y⟩⟩
  rw [decide_eq_decide.mpr e]
end PA
