/-! ===== pure: what one piece of an EITHER's code comes to, both sides (behind pT) ===== -/
section PE9
theorem lgv (x y : Int64) : lg_cmp x y = (if y.toInt < x.toInt then 1 else if x.toInt = y.toInt then 0 else -1) := by
  unfold lg_cmp
  by_cases a : y.toInt < x.toInt
  · rw [if_pos a, if_pos (show x > y from Int64.lt_iff_toInt_lt.mpr a)]
  · rw [if_neg a, if_neg (show ¬ x > y from fun h => a (Int64.lt_iff_toInt_lt.mp h))]
    by_cases b : x.toInt = y.toInt
    · rw [if_pos b, if_pos (Int64.toInt_inj.mp b)]
    · rw [if_neg b, if_neg (fun h => b (congrArg Int64.toInt h))]
theorem t64 (a : Int32) : a.toInt64.toInt = a.toInt := Int32.toInt_toInt64 a
def cl9 (v : Int) : Int := if 1000000000 < v then 1000000000 else if v < -1000000000 then -1000000000 else v
theorem cl9_b (v : Int) : -1000000000 ≤ cl9 v ∧ cl9 v ≤ 1000000000 := by
  unfold cl9
  split
  · omega
  · split <;> omega
theorem cl9_i {v : Int} (h : -1000000000 ≤ v ∧ v ≤ 1000000000) : cl9 v = v := by
  unfold cl9
  rw [if_neg (by omega), if_neg (by omega)]
theorem clip_v (x : Int64) : (g_X12_clip x).toInt = cl9 x.toInt := by
  have k1 : (1000000000 : Int64).toInt = 1000000000 := by decide
  have k2 : (-1000000000 : Int64).toInt = -1000000000 := by decide
  rw [g_X12_clip_e]
  simp only [↓ap1_n]
  rw [lgv, lgv, k1, k2]
  unfold cl9
  by_cases a : 1000000000 < x.toInt
  · rw [if_pos a, if_neg (show ¬ (1 : Int32) ≤ 0 by decide), if_pos a]; exact k1
  · rw [if_neg a, if_neg a]
    have z : (if x.toInt = 1000000000 then (0 : Int32) else -1) ≤ 0 := by split <;> decide
    rw [if_pos z]
    by_cases b : x.toInt < -1000000000
    · rw [if_neg (show ¬ -1000000000 < x.toInt by omega), if_neg (show ¬ x.toInt = -1000000000 by omega), if_neg (show ¬ (0 : Int32) ≤ -1 by decide), if_pos b]; exact k2
    · have w : (0 : Int32) ≤ (if -1000000000 < x.toInt then (1 : Int32) else if x.toInt = -1000000000 then 0 else -1) := by
        by_cases q : -1000000000 < x.toInt
        · rw [if_pos q]; decide
        · rw [if_neg q, if_pos (by omega)]; decide
      rw [if_pos w, if_neg b]
theorem k205_v (x : Int64) : (g_X8_join_K205 x).toInt = cl9 x.toInt := by
  have k1 : (1000000000 : Int64).toInt = 1000000000 := by decide
  have k2 : (-1000000000 : Int64).toInt = -1000000000 := by decide
  rw [g_X8_join_K205_e]
  simp only [↓ap1_n]
  have t32 : ∀ y : Int64, -1000000000 ≤ y.toInt → y.toInt ≤ 1000000000 → y.toInt32.toInt = y.toInt := fun y h1 h2 => by
    rw [Int64.toInt_toInt32]
    exact Int.bmod_eq_of_le (by omega) (by omega)
  unfold cl9
  by_cases a : x < 1000000000
  · have a1 := Int64.lt_iff_toInt_lt.mp a
    rw [k1] at a1
    rw [if_pos a, if_neg (show ¬ 1000000000 < x.toInt by omega)]
    by_cases b : x < -1000000000
    · have b1 := Int64.lt_iff_toInt_lt.mp b
      rw [k2] at b1
      rw [if_pos b, if_pos b1]; decide
    · have b1 : ¬ x.toInt < (-1000000000 : Int64).toInt := fun h => b (Int64.lt_iff_toInt_lt.mpr h)
      rw [k2] at b1
      rw [if_neg b, if_neg b1]
      exact t32 x (by omega) (by omega)
  · have a1 : ¬ x.toInt < (1000000000 : Int64).toInt := fun h => a (Int64.lt_iff_toInt_lt.mpr h)
    rw [k1] at a1
    rw [if_neg a, if_neg (show ¬ (1000000000 : Int64) < -1000000000 by decide)]
    by_cases c : 1000000000 < x.toInt
    · rw [if_pos c]; decide
    · rw [if_neg c, if_neg (by omega), show x.toInt = 1000000000 by omega]; decide
/-- a value's bound -/
def vb9 (a : Int32) : Prop := -1000000000 ≤ a.toInt ∧ a.toInt ≤ 1000000000
theorem d_b {a b : Int} (ha : -1000000000 ≤ a ∧ a ≤ 1000000000) : -1000000000 ≤ a.tdiv b ∧ a.tdiv b ≤ 1000000000 := by
  have h : (a.tdiv b).natAbs ≤ a.natAbs := by
    rw [Int.natAbs_tdiv]
    exact Nat.div_le_self _ _
  omega
/-- + - * / -/
theorem jn_ar {a b : Int32} (ha : vb9 a) (hb : vb9 b) : ∀ c o : Int32, (c = 25 ∧ o = 3) ∨ (c = 26 ∧ o = 4) ∨ (c = 27 ∧ o = 5) ∨ (c = 28 ∧ o = 6) → (g_X8_join c a b).toInt64 = g_X12_two o a.toInt64 b.toInt64 ∧ vb9 (g_X8_join c a b) := by
  have k0 : (0 : Int64).toInt = 0 := by decide
  have fin : ∀ (x : Int32) (y : Int64), x.toInt = y.toInt → -1000000000 ≤ x.toInt ∧ x.toInt ≤ 1000000000 → x.toInt64 = y ∧ vb9 x := fun x y h1 h2 => ⟨Int64.toInt_inj.mp (by rw [t64, h1]), h2⟩
  intro c o h
  rcases h with ⟨h1, h2⟩ | ⟨h1, h2⟩ | ⟨h1, h2⟩ | ⟨h1, h2⟩
  · subst h1 h2
    have e1 : g_X8_join 25 a b = g_X8_join_K205 (a.toInt64 + b.toInt64) := by
      rw [g_X8_join_e]
      simp only [↓ap1_n]
      rw [if_neg (show ¬ (25 : Int32) = 9 by decide), if_neg (show ¬ (25 : Int32) = 10 by decide), if_neg (show ¬ (25 : Int32) = 11 by decide), if_neg (show ¬ (25 : Int32) = 12 by decide), if_neg (show ¬ (25 : Int32) = 13 by decide), if_neg (show ¬ (25 : Int32) = 14 by decide), if_neg (show ¬ (25 : Int32) = 15 by decide), if_neg (show ¬ (25 : Int32) = 16 by decide), if_neg (show ¬ (25 : Int32) = 17 by decide), if_neg (show ¬ (25 : Int32) = 18 by decide), if_neg (show ¬ (25 : Int32) = 19 by decide), if_neg (show ¬ (25 : Int32) = 20 by decide), if_neg (show ¬ (25 : Int32) = 21 by decide), if_neg (show ¬ (25 : Int32) = 22 by decide), if_neg (show ¬ (25 : Int32) = 23 by decide), if_neg (show ¬ (25 : Int32) = 24 by decide), if_pos trivial]
    have e2 : g_X12_two 3 a.toInt64 b.toInt64 = g_X12_clip (a.toInt64 + b.toInt64) := rfl
    rw [e1, e2]
    exact fin _ _ (by rw [k205_v, clip_v]) (by rw [k205_v]; exact cl9_b _)
  · subst h1 h2
    have e1 : g_X8_join 26 a b = g_X8_join_K205 (a.toInt64 - b.toInt64) := by
      rw [g_X8_join_e]
      simp only [↓ap1_n]
      rw [if_neg (show ¬ (26 : Int32) = 9 by decide), if_neg (show ¬ (26 : Int32) = 10 by decide), if_neg (show ¬ (26 : Int32) = 11 by decide), if_neg (show ¬ (26 : Int32) = 12 by decide), if_neg (show ¬ (26 : Int32) = 13 by decide), if_neg (show ¬ (26 : Int32) = 14 by decide), if_neg (show ¬ (26 : Int32) = 15 by decide), if_neg (show ¬ (26 : Int32) = 16 by decide), if_neg (show ¬ (26 : Int32) = 17 by decide), if_neg (show ¬ (26 : Int32) = 18 by decide), if_neg (show ¬ (26 : Int32) = 19 by decide), if_neg (show ¬ (26 : Int32) = 20 by decide), if_neg (show ¬ (26 : Int32) = 21 by decide), if_neg (show ¬ (26 : Int32) = 22 by decide), if_neg (show ¬ (26 : Int32) = 23 by decide), if_neg (show ¬ (26 : Int32) = 24 by decide), if_neg (show ¬ (26 : Int32) = 25 by decide), if_pos trivial]
    have e2 : g_X12_two 4 a.toInt64 b.toInt64 = g_X12_clip (a.toInt64 - b.toInt64) := rfl
    rw [e1, e2]
    exact fin _ _ (by rw [k205_v, clip_v]) (by rw [k205_v]; exact cl9_b _)
  · subst h1 h2
    have e1 : g_X8_join 27 a b = g_X8_join_K205 (a.toInt64 * b.toInt64) := by
      rw [g_X8_join_e]
      simp only [↓ap1_n]
      rw [if_neg (show ¬ (27 : Int32) = 9 by decide), if_neg (show ¬ (27 : Int32) = 10 by decide), if_neg (show ¬ (27 : Int32) = 11 by decide), if_neg (show ¬ (27 : Int32) = 12 by decide), if_neg (show ¬ (27 : Int32) = 13 by decide), if_neg (show ¬ (27 : Int32) = 14 by decide), if_neg (show ¬ (27 : Int32) = 15 by decide), if_neg (show ¬ (27 : Int32) = 16 by decide), if_neg (show ¬ (27 : Int32) = 17 by decide), if_neg (show ¬ (27 : Int32) = 18 by decide), if_neg (show ¬ (27 : Int32) = 19 by decide), if_neg (show ¬ (27 : Int32) = 20 by decide), if_neg (show ¬ (27 : Int32) = 21 by decide), if_neg (show ¬ (27 : Int32) = 22 by decide), if_neg (show ¬ (27 : Int32) = 23 by decide), if_neg (show ¬ (27 : Int32) = 24 by decide), if_neg (show ¬ (27 : Int32) = 25 by decide), if_neg (show ¬ (27 : Int32) = 26 by decide), if_pos trivial]
    have e2 : g_X12_two 5 a.toInt64 b.toInt64 = g_X12_clip (a.toInt64 * b.toInt64) := rfl
    rw [e1, e2]
    exact fin _ _ (by rw [k205_v, clip_v]) (by rw [k205_v]; exact cl9_b _)
  · subst h1 h2
    have e1 : g_X8_join 28 a b = (if b = 0 then 0 else a / b) := by
      rw [g_X8_join_e]
      simp only [↓ap1_n]
      rw [if_neg (show ¬ (28 : Int32) = 9 by decide), if_neg (show ¬ (28 : Int32) = 10 by decide), if_neg (show ¬ (28 : Int32) = 11 by decide), if_neg (show ¬ (28 : Int32) = 12 by decide), if_neg (show ¬ (28 : Int32) = 13 by decide), if_neg (show ¬ (28 : Int32) = 14 by decide), if_neg (show ¬ (28 : Int32) = 15 by decide), if_neg (show ¬ (28 : Int32) = 16 by decide), if_neg (show ¬ (28 : Int32) = 17 by decide), if_neg (show ¬ (28 : Int32) = 18 by decide), if_neg (show ¬ (28 : Int32) = 19 by decide), if_neg (show ¬ (28 : Int32) = 20 by decide), if_neg (show ¬ (28 : Int32) = 21 by decide), if_neg (show ¬ (28 : Int32) = 22 by decide), if_neg (show ¬ (28 : Int32) = 23 by decide), if_neg (show ¬ (28 : Int32) = 24 by decide), if_neg (show ¬ (28 : Int32) = 25 by decide), if_neg (show ¬ (28 : Int32) = 26 by decide), if_neg (show ¬ (28 : Int32) = 27 by decide)]
    have e2 : g_X12_two 6 a.toInt64 b.toInt64 = (if lg_cmp b.toInt64 0 = 0 then 0 else g_X12_clip (a.toInt64 / b.toInt64)) := rfl
    rw [e1, e2]
    by_cases q : b = 0
    · have z : lg_cmp b.toInt64 0 = 0 := by rw [q]; decide
      rw [if_pos q, if_pos z]
      exact ⟨by decide, by decide, by decide⟩
    · have q1 : b.toInt ≠ 0 := fun y => q (Int32.toInt_inj.mp (y.trans (by decide)))
      have z : ¬ lg_cmp b.toInt64 0 = 0 := fun y => q1 (by
        have := (cmp0 _).mp y
        have := congrArg Int64.toInt this
        rw [t64] at this
        exact this)
      rw [if_neg q, if_neg z]
      have db := d_b (b := b.toInt) ha
      have x1 : (a / b).toInt = a.toInt.tdiv b.toInt := by
        rw [Int32.toInt_div]
        exact Int.bmod_eq_of_le (by omega) (by omega)
      have x2 : (a.toInt64 / b.toInt64).toInt = a.toInt.tdiv b.toInt := by
        rw [Int64.toInt_div, t64, t64]
        exact Int.bmod_eq_of_le (by omega) (by omega)
      exact fin _ _ (by rw [clip_v, x1, x2, cl9_i db]) (by rw [x1]; exact db)
/-- comparisons -/
theorem jn_cm {a b : Int32} : ∀ c o : Int32, (c = 19 ∧ o = 10) ∨ (c = 20 ∧ o = 11) ∨ (c = 21 ∧ o = 12) ∨ (c = 22 ∧ o = 13) ∨ (c = 23 ∧ o = 14) ∨ (c = 24 ∧ o = 15) → g_X8_join c a b = g_X12_isAsked o a.toInt64 b.toInt64 ∧ (g_X8_join c a b = 0 ∨ g_X8_join c a b = 1) := by
  have L : lg_cmp a.toInt64 b.toInt64 = (if b.toInt < a.toInt then 1 else if a.toInt = b.toInt then 0 else -1) := by rw [lgv, t64, t64]
  have le : ∀ x y : Int32, x ≤ y ↔ x.toInt ≤ y.toInt := fun x y => Int32.le_iff_toInt_le
  have lt : ∀ x y : Int32, x < y ↔ x.toInt < y.toInt := fun x y => Int32.lt_iff_toInt_lt
  have eq : a = b ↔ a.toInt = b.toInt := ⟨congrArg _, fun h => Int32.toInt_inj.mp h⟩
  have three : b.toInt < a.toInt ∨ a.toInt = b.toInt ∨ a.toInt < b.toInt := by omega
  intro c o h
  rcases h with ⟨h1, h2⟩ | ⟨h1, h2⟩ | ⟨h1, h2⟩ | ⟨h1, h2⟩ | ⟨h1, h2⟩ | ⟨h1, h2⟩
  · subst h1 h2
    have e1 : g_X8_join 19 a b = (if b ≤ a then 0 else 1) := rfl
    have e2 : g_X12_isAsked 10 a.toInt64 b.toInt64 = (if 0 ≤ lg_cmp a.toInt64 b.toInt64 then 0 else 1) := rfl
    rw [e1, e2, L]
    rcases three with t | t | t
    · rw [if_pos t, if_pos ((le _ _).mpr (by omega))]; exact ⟨rfl, Or.inl rfl⟩
    · rw [if_neg (show ¬ b.toInt < a.toInt by omega), if_pos t, if_pos ((le _ _).mpr (by omega))]; exact ⟨rfl, Or.inl rfl⟩
    · rw [if_neg (show ¬ b.toInt < a.toInt by omega), if_neg (show ¬ a.toInt = b.toInt by omega), if_neg (fun y => by have := (le _ _).mp y; omega)]; exact ⟨rfl, Or.inr rfl⟩
  · subst h1 h2
    have e1 : g_X8_join 20 a b = (if b < a then 0 else 1) := rfl
    have e2 : g_X12_isAsked 11 a.toInt64 b.toInt64 = (if 0 < lg_cmp a.toInt64 b.toInt64 then 0 else 1) := rfl
    rw [e1, e2, L]
    rcases three with t | t | t
    · rw [if_pos t, if_pos ((lt _ _).mpr t)]; exact ⟨rfl, Or.inl rfl⟩
    · rw [if_neg (show ¬ b.toInt < a.toInt by omega), if_pos t, if_neg (fun y => by have := (lt _ _).mp y; omega)]; exact ⟨rfl, Or.inr rfl⟩
    · rw [if_neg (show ¬ b.toInt < a.toInt by omega), if_neg (show ¬ a.toInt = b.toInt by omega), if_neg (fun y => by have := (lt _ _).mp y; omega)]; exact ⟨rfl, Or.inr rfl⟩
  · subst h1 h2
    have e1 : g_X8_join 21 a b = (if a ≤ b then 0 else 1) := rfl
    have e2 : g_X12_isAsked 12 a.toInt64 b.toInt64 = (if lg_cmp a.toInt64 b.toInt64 ≤ 0 then 0 else 1) := rfl
    rw [e1, e2, L]
    rcases three with t | t | t
    · rw [if_pos t, if_neg (fun y => by have := (le _ _).mp y; omega)]; exact ⟨rfl, Or.inr rfl⟩
    · rw [if_neg (show ¬ b.toInt < a.toInt by omega), if_pos t, if_pos ((le _ _).mpr (by omega))]; exact ⟨rfl, Or.inl rfl⟩
    · rw [if_neg (show ¬ b.toInt < a.toInt by omega), if_neg (show ¬ a.toInt = b.toInt by omega), if_pos ((le _ _).mpr (by omega))]; exact ⟨rfl, Or.inl rfl⟩
  · subst h1 h2
    have e1 : g_X8_join 22 a b = (if a < b then 0 else 1) := rfl
    have e2 : g_X12_isAsked 13 a.toInt64 b.toInt64 = (if lg_cmp a.toInt64 b.toInt64 < 0 then 0 else 1) := rfl
    rw [e1, e2, L]
    rcases three with t | t | t
    · rw [if_pos t, if_neg (fun y => by have := (lt _ _).mp y; omega)]; exact ⟨rfl, Or.inr rfl⟩
    · rw [if_neg (show ¬ b.toInt < a.toInt by omega), if_pos t, if_neg (fun y => by have := (lt _ _).mp y; omega)]; exact ⟨rfl, Or.inr rfl⟩
    · rw [if_neg (show ¬ b.toInt < a.toInt by omega), if_neg (show ¬ a.toInt = b.toInt by omega), if_pos ((lt _ _).mpr t)]; exact ⟨rfl, Or.inl rfl⟩
  · subst h1 h2
    have e1 : g_X8_join 23 a b = (if a = b then 1 else 0) := rfl
    have e2 : g_X12_isAsked 14 a.toInt64 b.toInt64 = (if lg_cmp a.toInt64 b.toInt64 = 0 then 1 else 0) := rfl
    rw [e1, e2, L]
    rcases three with t | t | t
    · rw [if_pos t, if_neg (fun y => by have := eq.mp y; omega)]; exact ⟨rfl, Or.inl rfl⟩
    · rw [if_neg (show ¬ b.toInt < a.toInt by omega), if_pos t, if_pos (eq.mpr t)]; exact ⟨rfl, Or.inr rfl⟩
    · rw [if_neg (show ¬ b.toInt < a.toInt by omega), if_neg (show ¬ a.toInt = b.toInt by omega), if_neg (fun y => by have := eq.mp y; omega)]; exact ⟨rfl, Or.inl rfl⟩
  · subst h1 h2
    have e1 : g_X8_join 24 a b = (if a = b then 0 else 1) := rfl
    have e2 : g_X12_isAsked 15 a.toInt64 b.toInt64 = (if lg_cmp a.toInt64 b.toInt64 = 0 then 0 else 1) := rfl
    rw [e1, e2, L]
    rcases three with t | t | t
    · rw [if_pos t, if_neg (fun y => by have := eq.mp y; omega)]; exact ⟨rfl, Or.inr rfl⟩
    · rw [if_neg (show ¬ b.toInt < a.toInt by omega), if_pos t, if_pos (eq.mpr t)]; exact ⟨rfl, Or.inl rfl⟩
    · rw [if_neg (show ¬ b.toInt < a.toInt by omega), if_neg (show ¬ a.toInt = b.toInt by omega), if_neg (fun y => by have := eq.mp y; omega)]; exact ⟨rfl, Or.inr rfl⟩
end PE9
