/-! ===== pure: KEYS, both sides; the queue by them (behind pk2) ===== -/
section PK3
variable {I : Nat → Int32} {J : Nat → Int64} {ri : Nat → Nat → Int32} {rj : Nat → Nat → Int64} {rq : Nat → Nat → Option Nat}
variable {U : Nat → Int32} {V : Nat → Int64} {si : Nat → Nat → Int32} {sj : Nat → Nat → Int64} {sq : Nat → Nat → Option Nat}
variable {tI : Nat → Nat → Int32} {tR : Nat → Nat → Nat → Int32}
/-- what a KEY is of PERSON p -/
def kvl (A : Nat → Int32) (p : Nat) (y : Int32) : Int32 := nmv A p 0 0 (y.toInt.natAbs - 12)
/-- whether by these KEYS p comes ahead of q -/
def ahd (A : Nat → Int32) : List Int32 → Nat → Nat → Bool
  | [], _, _ => false
  | y :: E, p, q => if kvl A p y = kvl A q y then ahd A E p q else if 0 ≤ y.toInt then decide ((kvl A p y).toInt < (kvl A q y).toInt) else decide ((kvl A q y).toInt < (kvl A p y).toInt)
theorem kr_v {y : Int32} (h : KYN y) : ∃ k : Nat, k < 6 ∧ y.toInt.natAbs - 12 = k ∧ ((0 ≤ y ∧ 0 ≤ y.toInt ∧ 0 ≤ kr y ∧ ¬ kr y < 0 ∧ (kr y).toInt = (k : Int)) ∨ (¬ 0 ≤ y ∧ ¬ 0 ≤ y.toInt ∧ ¬ 0 ≤ kr y ∧ kr y < 0 ∧ ((-1 : Int32) - kr y).toInt = (k : Int))) := by
  have h' : (12 ≤ y.toInt ∧ y.toInt ≤ 17) ∨ (-17 ≤ y.toInt ∧ y.toInt ≤ -12) := h
  by_cases e0 : y.toInt = 12
  · have e : y = 12 := i32_k e0 (by decide)
    subst e
    exact ⟨0, by decide, by decide, Or.inl ⟨by decide, by decide, by decide, by decide, by decide⟩⟩
  by_cases e1 : y.toInt = 13
  · have e : y = 13 := i32_k e1 (by decide)
    subst e
    exact ⟨1, by decide, by decide, Or.inl ⟨by decide, by decide, by decide, by decide, by decide⟩⟩
  by_cases e2 : y.toInt = 14
  · have e : y = 14 := i32_k e2 (by decide)
    subst e
    exact ⟨2, by decide, by decide, Or.inl ⟨by decide, by decide, by decide, by decide, by decide⟩⟩
  by_cases e3 : y.toInt = 15
  · have e : y = 15 := i32_k e3 (by decide)
    subst e
    exact ⟨3, by decide, by decide, Or.inl ⟨by decide, by decide, by decide, by decide, by decide⟩⟩
  by_cases e4 : y.toInt = 16
  · have e : y = 16 := i32_k e4 (by decide)
    subst e
    exact ⟨4, by decide, by decide, Or.inl ⟨by decide, by decide, by decide, by decide, by decide⟩⟩
  by_cases e5 : y.toInt = 17
  · have e : y = 17 := i32_k e5 (by decide)
    subst e
    exact ⟨5, by decide, by decide, Or.inl ⟨by decide, by decide, by decide, by decide, by decide⟩⟩
  by_cases e10 : y.toInt = -12
  · have e : y = -12 := i32_k e10 (by decide)
    subst e
    exact ⟨0, by decide, by decide, Or.inr ⟨by decide, by decide, by decide, by decide, by decide⟩⟩
  by_cases e11 : y.toInt = -13
  · have e : y = -13 := i32_k e11 (by decide)
    subst e
    exact ⟨1, by decide, by decide, Or.inr ⟨by decide, by decide, by decide, by decide, by decide⟩⟩
  by_cases e12 : y.toInt = -14
  · have e : y = -14 := i32_k e12 (by decide)
    subst e
    exact ⟨2, by decide, by decide, Or.inr ⟨by decide, by decide, by decide, by decide, by decide⟩⟩
  by_cases e13 : y.toInt = -15
  · have e : y = -15 := i32_k e13 (by decide)
    subst e
    exact ⟨3, by decide, by decide, Or.inr ⟨by decide, by decide, by decide, by decide, by decide⟩⟩
  by_cases e14 : y.toInt = -16
  · have e : y = -16 := i32_k e14 (by decide)
    subst e
    exact ⟨4, by decide, by decide, Or.inr ⟨by decide, by decide, by decide, by decide, by decide⟩⟩
  by_cases e15 : y.toInt = -17
  · have e : y = -17 := i32_k e15 (by decide)
    subst e
    exact ⟨5, by decide, by decide, Or.inr ⟨by decide, by decide, by decide, by decide, by decide⟩⟩
  · exfalso
    rcases h' with h | h <;> omega
theorem kv_c {y a : Int32} {p : Nat} {A : Nat → Int32} (h : KYN y) (ha : a.toInt = (p : Int)) (h1 : ri 1 p = A (740 + 12 * p)) (h2 : ri 2 p = A (740 + 12 * p + 1)) (h3 : ri 3 p = A (740 + 12 * p + 2)) (h5 : ri 5 p = A (740 + 12 * p + 3)) : g_X0_valueOf a (if (0 : Int32) ≤ y then y else 0 - y) 0 I J ri rj rq = (kvl A p y, I, J, ri, rj, rq) := by
  have h' : (12 ≤ y.toInt ∧ y.toInt ≤ 17) ∨ (-17 ≤ y.toInt ∧ y.toInt ≤ -12) := h
  obtain ⟨v0, v1, v2, v3, v4, v5⟩ := val_v (I := I) (J := J) (ri := ri) (rj := rj) (rq := rq) (mo := 0) ha
  rw [h2] at v0
  rw [h1] at v1
  rw [h3] at v2
  rw [h5] at v3
  have n0 : nmv A p 0 0 0 = A (740 + 12 * p + 1) := rfl
  have n1 : nmv A p 0 0 1 = A (740 + 12 * p) := rfl
  have n2 : nmv A p 0 0 2 = A (740 + 12 * p + 2) := rfl
  have n3 : nmv A p 0 0 3 = A (740 + 12 * p + 3) := rfl
  have n4 : nmv A p 0 0 4 = 0 := rfl
  have n5 : nmv A p 0 0 5 = 0 := rfl
  by_cases e0 : y.toInt = 12
  · have e : y = 12 := i32_k e0 (by decide)
    subst e
    rw [show (if (0 : Int32) ≤ 12 then (12 : Int32) else 0 - 12) = 12 by decide, v0]
    unfold kvl
    rw [show (12 : Int32).toInt.natAbs - 12 = 0 by decide, n0]
  by_cases e1 : y.toInt = 13
  · have e : y = 13 := i32_k e1 (by decide)
    subst e
    rw [show (if (0 : Int32) ≤ 13 then (13 : Int32) else 0 - 13) = 13 by decide, v1]
    unfold kvl
    rw [show (13 : Int32).toInt.natAbs - 12 = 1 by decide, n1]
  by_cases e2 : y.toInt = 14
  · have e : y = 14 := i32_k e2 (by decide)
    subst e
    rw [show (if (0 : Int32) ≤ 14 then (14 : Int32) else 0 - 14) = 14 by decide, v2]
    unfold kvl
    rw [show (14 : Int32).toInt.natAbs - 12 = 2 by decide, n2]
  by_cases e3 : y.toInt = 15
  · have e : y = 15 := i32_k e3 (by decide)
    subst e
    rw [show (if (0 : Int32) ≤ 15 then (15 : Int32) else 0 - 15) = 15 by decide, v3]
    unfold kvl
    rw [show (15 : Int32).toInt.natAbs - 12 = 3 by decide, n3]
  by_cases e4 : y.toInt = 16
  · have e : y = 16 := i32_k e4 (by decide)
    subst e
    rw [show (if (0 : Int32) ≤ 16 then (16 : Int32) else 0 - 16) = 16 by decide, v4]
    unfold kvl
    rw [show (16 : Int32).toInt.natAbs - 12 = 4 by decide, n4]
  by_cases e5 : y.toInt = 17
  · have e : y = 17 := i32_k e5 (by decide)
    subst e
    rw [show (if (0 : Int32) ≤ 17 then (17 : Int32) else 0 - 17) = 17 by decide, v5]
    unfold kvl
    rw [show (17 : Int32).toInt.natAbs - 12 = 5 by decide, n5]
  by_cases e10 : y.toInt = -12
  · have e : y = -12 := i32_k e10 (by decide)
    subst e
    rw [show (if (0 : Int32) ≤ -12 then (-12 : Int32) else 0 - -12) = 12 by decide, v0]
    unfold kvl
    rw [show (-12 : Int32).toInt.natAbs - 12 = 0 by decide, n0]
  by_cases e11 : y.toInt = -13
  · have e : y = -13 := i32_k e11 (by decide)
    subst e
    rw [show (if (0 : Int32) ≤ -13 then (-13 : Int32) else 0 - -13) = 13 by decide, v1]
    unfold kvl
    rw [show (-13 : Int32).toInt.natAbs - 12 = 1 by decide, n1]
  by_cases e12 : y.toInt = -14
  · have e : y = -14 := i32_k e12 (by decide)
    subst e
    rw [show (if (0 : Int32) ≤ -14 then (-14 : Int32) else 0 - -14) = 14 by decide, v2]
    unfold kvl
    rw [show (-14 : Int32).toInt.natAbs - 12 = 2 by decide, n2]
  by_cases e13 : y.toInt = -15
  · have e : y = -15 := i32_k e13 (by decide)
    subst e
    rw [show (if (0 : Int32) ≤ -15 then (-15 : Int32) else 0 - -15) = 15 by decide, v3]
    unfold kvl
    rw [show (-15 : Int32).toInt.natAbs - 12 = 3 by decide, n3]
  by_cases e14 : y.toInt = -16
  · have e : y = -16 := i32_k e14 (by decide)
    subst e
    rw [show (if (0 : Int32) ≤ -16 then (-16 : Int32) else 0 - -16) = 16 by decide, v4]
    unfold kvl
    rw [show (-16 : Int32).toInt.natAbs - 12 = 4 by decide, n4]
  by_cases e15 : y.toInt = -17
  · have e : y = -17 := i32_k e15 (by decide)
    subst e
    rw [show (if (0 : Int32) ≤ -17 then (-17 : Int32) else 0 - -17) = 17 by decide, v5]
    unfold kvl
    rw [show (-17 : Int32).toInt.natAbs - 12 = 5 by decide, n5]
  · exfalso
    rcases h' with h | h <;> omega
/-- KEYS' place, both sides -/
theorem cl_ky {r : Nat → Nat → Int32} {W : Nat} {A : Nat → Int32} : ∀ (M : CLs) (w : Nat), CTX r M → RTX W A M w → ∀ i, i < M.length → ((r 257 i).toInt = 4 ∨ (r 257 i).toInt = 5) → ∃ (E : List Int32) (c : Nat), (r 258 i).toInt = (c : Int) ∧ (r 258 (i + 1)).toInt = ((c + E.length : Nat) : Int) ∧ (∀ j y, E[j]? = some y → r 259 (c + j) = y) ∧ E.length ≤ 4 ∧ (A (W + 1 + 12 * i + 4)).toInt = (E.length : Int) ∧ (∀ j y, E[j]? = some y → A (W + 1 + 12 * i + 5 + j) = kr y) ∧ (∀ y, y ∈ E → KYN y) ∧ c + E.length ≤ tot M
  | [], _, _, _, _, h, _ => absurd h (Nat.not_lt_zero _)
  | x :: M, w, hC, hR, i, h, h4 => by
    obtain ⟨c1, c2, c3, c4⟩ := hC
    obtain ⟨r1, r2⟩ := hR
    have hl : (x :: M).length = M.length + 1 := rfl
    have ht : tot (x :: M) = tot M + x.2.length := rfl
    by_cases q : i = M.length
    · subst q
      rw [c2] at h4
      rcases r2 with ⟨b0, _⟩ | ⟨b0, bk, b1, b2, b3, b4⟩ | ⟨b0, _⟩
      · omega
      · exact ⟨x.2, tot M, ctx_tot M c1, c3, c4, b2, b3, b4, bk, by omega⟩
      · omega
    · have hR' : ∃ w', RTX W A M w' := by
        rcases r2 with ⟨_, _, w0, b1, b2, _⟩ | ⟨_, _, b1, _⟩ | ⟨_, b1, _⟩
        · exact ⟨w0, b1⟩
        · exact ⟨w, b1⟩
        · exact ⟨w, b1⟩
      obtain ⟨w', hR'⟩ := hR'
      obtain ⟨E, c, g1, g2, g3, g4, g5, g6, g7, g8⟩ := cl_ky M w' c1 hR' i (by omega) h4
      exact ⟨E, c, g1, g2, g3, g4, g5, g6, g7, by omega⟩
/-- the class compares by KEYS -/
theorem ah_c {w p q : Nat} {a0 a2 a3 eC : Int32} {A : Nat → Int32} (hC0 : tR 258 w (a0 + 1).toNatClampNeg = eC) (h2 : a2.toInt = (p : Int)) (h3 : a3.toInt = (q : Int)) (hR : ∀ z, z = p ∨ z = q → ri 1 z = A (740 + 12 * z) ∧ ri 2 z = A (740 + 12 * z + 1) ∧ ri 3 z = A (740 + 12 * z + 2) ∧ ri 5 z = A (740 + 12 * z + 3)) : ∀ (E : List Int32) (n c : Nat) (x : Int32), E.length < n → (∀ i y, E[i]? = some y → tR 259 w (c + i) = y) → x.toInt = (c : Int) → eC.toInt = ((c + E.length : Nat) : Int) → c + E.length ≤ 300 → (∀ y, y ∈ E → KYN y) → g_X8_isAhead_L22 w a0 a2 a3 I J ri rj rq tR n x = ((if ahd A E p q = true then 1 else 0), I, J, ri, rj, rq) := by
  have k0 : (0 : Int32).toInt = 0 := by decide
  intro E
  induction E with
  | nil =>
    intro n c x hn _ hx hC c3 _
    have hl : ([] : List Int32).length = 0 := rfl
    obtain ⟨n, rfl⟩ : ∃ k, n = k + 1 := ⟨n - 1, by omega⟩
    rw [g_X8_isAhead_L22_e]
    simp only [↓ap1_n]
    rw [hC0, if_pos ((le_n hC hx).mpr (by omega)), if_neg (show ¬ ahd A [] p q = true from fun z => absurd (show false = true from z) (by decide))]
  | cons y E ih =>
    intro n c x hn hE hx hC c3 hK
    have hl : (y :: E).length = E.length + 1 := rfl
    obtain ⟨n, rfl⟩ : ∃ k, n = k + 1 := ⟨n - 1, by omega⟩
    have hc : tR 259 w c = y := by
      have := hE 0 y rfl
      rw [Nat.add_zero] at this
      exact this
    have ky := hK y (List.mem_cons_self ..)
    obtain ⟨p1, p2, p3, p4⟩ := hR p (Or.inl rfl)
    obtain ⟨q1, q2, q3, q4⟩ := hR q (Or.inr rfl)
    have ea : ahd A (y :: E) p q = (if kvl A p y = kvl A q y then ahd A E p q else if 0 ≤ y.toInt then decide ((kvl A p y).toInt < (kvl A q y).toInt) else decide ((kvl A q y).toInt < (kvl A p y).toInt)) := rfl
    have nq : ¬ eC ≤ x := fun z => by
      have := (le_n hC hx).mp z
      omega
    rw [g_X8_isAhead_L22_e]
    simp only [↓ap1_n]
    rw [hC0, if_neg nq, at_n hx, hc, bn_n (kv_c ky h2 p1 p2 p3 p4), bn_n (kv_c ky h3 q1 q2 q3 q4), g_J6_compare_7cf53_e, ea]
    by_cases e : kvl A p y = kvl A q y
    · rw [if_pos (show (if kvl A q y ≤ kvl A p y then (if kvl A p y = kvl A q y then (0 : Int32) else 1) else -1) = 0 by rw [e, if_pos (Int32.le_refl _), if_pos rfl]), if_pos e]
      exact ih n (c + 1) _ (by omega) (fun i z hz => by rw [show c + 1 + i = c + (i + 1) by omega]; exact hE (i + 1) z (by simpa using hz)) (up_i hx (by omega)) (by rw [hC]; omega) (by omega) (fun z hz => hK z (List.mem_cons_of_mem _ hz))
    · have ne : (kvl A p y).toInt ≠ (kvl A q y).toInt := fun z => e (Int32.toInt_inj.mp z)
      rw [if_neg e]
      by_cases d : kvl A q y ≤ kvl A p y
      · have d1 := Int32.le_iff_toInt_le.mp d
        rw [if_pos d, if_neg e, if_neg (show ¬ (1 : Int32) = 0 by decide), if_pos (show (0 : Int32) ≤ 1 by decide), if_neg (show ¬ (1 : Int32) ≤ 0 by decide)]
        by_cases s : (0 : Int32) ≤ y
        · have s1 := Int32.le_iff_toInt_le.mp s
          rw [k0] at s1
          rw [if_pos s, if_pos s1, decide_eq_false (show ¬ (kvl A p y).toInt < (kvl A q y).toInt by omega), if_neg Bool.false_ne_true]
        · have s1 : ¬ 0 ≤ y.toInt := fun z => s (Int32.le_iff_toInt_le.mpr (by rw [k0]; exact z))
          rw [if_neg s, if_neg s1, decide_eq_true (show (kvl A q y).toInt < (kvl A p y).toInt by omega), if_pos rfl]
      · have d1 : ¬ (kvl A q y).toInt ≤ (kvl A p y).toInt := fun z => d (Int32.le_iff_toInt_le.mpr z)
        rw [if_neg d, if_neg e, if_neg (show ¬ (-1 : Int32) = 0 by decide), if_neg (show ¬ (0 : Int32) ≤ -1 by decide), if_pos (show (-1 : Int32) ≤ 0 by decide)]
        by_cases s : (0 : Int32) ≤ y
        · have s1 := Int32.le_iff_toInt_le.mp s
          rw [k0] at s1
          rw [if_pos s, if_pos s1, decide_eq_true (show (kvl A p y).toInt < (kvl A q y).toInt by omega), if_pos rfl]
        · have s1 : ¬ 0 ≤ y.toInt := fun z => s (Int32.le_iff_toInt_le.mpr (by rw [k0]; exact z))
          rw [if_neg s, if_neg s1, decide_eq_false (show ¬ (kvl A q y).toInt < (kvl A p y).toInt by omega), if_neg Bool.false_ne_true]
/-- the MONTH of both is the same -/
theorem nm_mo {A : Nat → Int32} {p q k : Nat} {mo : Int32} : (nmv A p mo 0 k = nmv A q mo 0 k ↔ nmv A p 0 0 k = nmv A q 0 0 k) ∧ (¬ nmv A p 0 0 k = nmv A q 0 0 k → nmv A p mo 0 k = nmv A p 0 0 k ∧ nmv A q mo 0 k = nmv A q 0 0 k) := by
  by_cases c : k = 4
  · subst c
    have a : ∀ z m, nmv A z m 0 4 = m := fun _ _ => rfl
    rw [a, a, a, a]
    exact ⟨⟨fun _ => rfl, fun _ => rfl⟩, fun h => absurd rfl h⟩
  · have a : ∀ z, nmv A z mo 0 k = nmv A z 0 0 k := fun z => by
      unfold nmv
      rw [if_neg c, if_neg c]
    rw [a, a]
    exact ⟨Iff.rfl, fun _ => ⟨rfl, rfl⟩⟩
/-- the reference compares by KEYS -/
theorem ah_m {p q K L : Nat} {a0 a1 mo : Int32} (h0 : a0.toInt = (p : Int)) (h1 : a1.toInt = (q : Int)) (hp : p < 40) (hq : q < 40) (hK : (U 406).toInt = (K : Int)) (hK2 : K ≤ 100000) (hL : (si 384 (K + 4)).toInt = (L : Int)) (hL4 : L ≤ 4) : ∀ (E : List Int32) (n j : Nat) (x : Int32), E.length < n → (∀ i y, E[i]? = some y → si 384 (K + 5 + (j + i)) = kr y) → x.toInt = (j : Int) → j + E.length = L → (∀ y, y ∈ E → KYN y) → g_X12_isAhead_L3 a0 a1 mo U V si sj sq n x = ((if ahd (si 384) E p q = true then 1 else 0), U, V, si, sj, sq) := by
  have k0 : (0 : Int32).toInt = 0 := by decide
  have e4 : (U 406 + 4).toNatClampNeg = K + 4 := at_n ((i_add hK (show (4 : Int32).toInt = 4 by decide) (by omega) (by omega)).trans (by omega))
  have m5 := i_add hK (show (5 : Int32).toInt = 5 by decide) (by omega) (by omega)
  intro E
  induction E with
  | nil =>
    intro n j x hn _ hx hj _
    have hl : ([] : List Int32).length = 0 := rfl
    obtain ⟨n, rfl⟩ : ∃ k, n = k + 1 := ⟨n - 1, by omega⟩
    rw [g_X12_isAhead_L3_e]
    simp only [↓ap1_n]
    rw [e4, if_pos ((le_n hL hx).mpr (by omega)), if_neg (show ¬ ahd (si 384) [] p q = true from fun z => absurd (show false = true from z) (by decide))]
  | cons y E ih =>
    intro n j x hn hE hx hj hY
    have hl : (y :: E).length = E.length + 1 := rfl
    obtain ⟨n, rfl⟩ : ∃ k, n = k + 1 := ⟨n - 1, by omega⟩
    have nq : ¬ si 384 (K + 4) ≤ x := fun z => by
      have := (le_n hL hx).mp z
      omega
    have e5 : (U 406 + 5 + x).toNatClampNeg = K + 5 + j := at_n ((i_add m5 hx (by omega) (by omega)).trans (by omega))
    have hc : si 384 (K + 5 + j) = kr y := by
      have := hE 0 y rfl
      rw [Nat.add_zero] at this
      exact this
    have ea : ahd (si 384) (y :: E) p q = (if kvl (si 384) p y = kvl (si 384) q y then ahd (si 384) E p q else if 0 ≤ y.toInt then decide ((kvl (si 384) p y).toInt < (kvl (si 384) q y).toInt) else decide ((kvl (si 384) q y).toInt < (kvl (si 384) p y).toInt)) := rfl
    have nx : g_X12_isAhead_L3 a0 a1 mo U V si sj sq n (x + Int32.ofInt 1) = ((if ahd (si 384) E p q = true then 1 else 0), U, V, si, sj, sq) := ih n (j + 1) _ (by omega) (fun i z hz => by rw [show j + 1 + i = j + (i + 1) by omega]; exact hE (i + 1) z (by simpa using hz)) (up_i hx (by omega)) (by omega) (fun z hz => hY z (List.mem_cons_of_mem _ hz))
    obtain ⟨k, k6, kk, ks⟩ := kr_v (hY y (List.mem_cons_self ..))
    have fin : ∀ z : Int32, z.toInt = (k : Int) → (0 ≤ y.toInt ↔ ¬ kr y < 0) → g_X12_isAhead_K49 a0 a1 mo U V si sj sq x (g_X12_isAhead_L3 a0 a1 mo U V si sj sq n) (kr y) z = ((if ahd (si 384) (y :: E) p q = true then 1 else 0), U, V, si, sj, sq) := fun z hz hs => by
      have kp : kvl (si 384) p y = nmv (si 384) p 0 0 k := by
        unfold kvl
        rw [kk]
      have kq : kvl (si 384) q y = nmv (si 384) q 0 0 k := by
        unfold kvl
        rw [kk]
      have nm := nm_mo (A := si 384) (p := p) (q := q) (k := k) (mo := mo)
      rw [g_X12_isAhead_K49_e, bn_n (named_v h0 hp hz k6), bn_n (named_v h1 hq hz k6), ea, kp, kq]
      by_cases e : nmv (si 384) p 0 0 k = nmv (si 384) q 0 0 k
      · rw [if_pos (nm.1.mpr e), if_pos e]
        simp only [↓ap1_n]
        exact nx
      · have ne : (nmv (si 384) p 0 0 k).toInt ≠ (nmv (si 384) q 0 0 k).toInt := fun z => e (Int32.toInt_inj.mp z)
        rw [if_neg (fun z => e (nm.1.mp z)), if_neg e, (nm.2 e).1, (nm.2 e).2]
        by_cases d : nmv (si 384) q 0 0 k ≤ nmv (si 384) p 0 0 k
        · have d1 := Int32.le_iff_toInt_le.mp d
          rw [if_pos d, g_X12_isAhead_K92_e]
          by_cases s : kr y < 0
          · rw [if_pos s, if_neg (fun z => hs.mp z s), decide_eq_true (show (nmv (si 384) q 0 0 k).toInt < (nmv (si 384) p 0 0 k).toInt by omega), if_pos rfl, g_X12_isAhead_K102_e]
          · rw [if_neg s, if_pos (hs.mpr s), decide_eq_false (show ¬ (nmv (si 384) p 0 0 k).toInt < (nmv (si 384) q 0 0 k).toInt by omega), if_neg Bool.false_ne_true, g_X12_isAhead_K102_2_e]
        · have d1 : ¬ (nmv (si 384) q 0 0 k).toInt ≤ (nmv (si 384) p 0 0 k).toInt := fun z => d (Int32.le_iff_toInt_le.mpr z)
          rw [if_neg d, g_X12_isAhead_K92_2_e]
          by_cases s : kr y < 0
          · rw [if_pos s, if_neg (fun z => hs.mp z s), decide_eq_false (show ¬ (nmv (si 384) q 0 0 k).toInt < (nmv (si 384) p 0 0 k).toInt by omega), if_neg Bool.false_ne_true, g_X12_isAhead_K102_3_e]
          · rw [if_neg s, if_pos (hs.mpr s), decide_eq_true (show (nmv (si 384) p 0 0 k).toInt < (nmv (si 384) q 0 0 k).toInt by omega), if_pos rfl, g_X12_isAhead_K102_4_e]
    rw [g_X12_isAhead_L3_e]
    simp only [↓ap1_n]
    rw [e4, if_neg nq, e5, hc]
    rcases ks with ⟨_, s1, s2, s3, s4⟩ | ⟨_, s1, s2, s3, s4⟩
    · rw [if_pos s2]
      exact fin _ s4 ⟨fun _ => s3, fun _ => s1⟩
    · rw [if_neg s2]
      exact fin _ s4 ⟨fun z => absurd z s1, fun z => absurd s3 z⟩
/-! the order by KEYS -/
theorem ahd_as {A : Nat → Int32} : ∀ (E : List Int32) (p q : Nat), ahd A E p q = true → ahd A E q p = false
  | [], _, _, h => absurd (show false = true from h) (by decide)
  | y :: E, p, q, h => by
    have h' : (if kvl A p y = kvl A q y then ahd A E p q else if 0 ≤ y.toInt then decide ((kvl A p y).toInt < (kvl A q y).toInt) else decide ((kvl A q y).toInt < (kvl A p y).toInt)) = true := h
    show (if kvl A q y = kvl A p y then ahd A E q p else if 0 ≤ y.toInt then decide ((kvl A q y).toInt < (kvl A p y).toInt) else decide ((kvl A p y).toInt < (kvl A q y).toInt)) = false
    by_cases e : kvl A p y = kvl A q y
    · rw [if_pos e] at h'
      rw [if_pos e.symm]
      exact ahd_as E p q h'
    · rw [if_neg e] at h'
      rw [if_neg (fun z => e z.symm)]
      by_cases s : 0 ≤ y.toInt
      · rw [if_pos s] at h' ⊢
        have := of_decide_eq_true h'
        exact decide_eq_false (by omega)
      · rw [if_neg s] at h' ⊢
        have := of_decide_eq_true h'
        exact decide_eq_false (by omega)
theorem ahd_nt {A : Nat → Int32} : ∀ (E : List Int32) (p q r : Nat), ahd A E p r = true → ahd A E p q = true ∨ ahd A E q r = true
  | [], _, _, _, h => absurd (show false = true from h) (by decide)
  | y :: E, p, q, r, h => by
    have h' : (if kvl A p y = kvl A r y then ahd A E p r else if 0 ≤ y.toInt then decide ((kvl A p y).toInt < (kvl A r y).toInt) else decide ((kvl A r y).toInt < (kvl A p y).toInt)) = true := h
    show (if kvl A p y = kvl A q y then ahd A E p q else if 0 ≤ y.toInt then decide ((kvl A p y).toInt < (kvl A q y).toInt) else decide ((kvl A q y).toInt < (kvl A p y).toInt)) = true ∨ (if kvl A q y = kvl A r y then ahd A E q r else if 0 ≤ y.toInt then decide ((kvl A q y).toInt < (kvl A r y).toInt) else decide ((kvl A r y).toInt < (kvl A q y).toInt)) = true
    have ti : ∀ a b : Int32, ¬ a = b → a.toInt ≠ b.toInt := fun a b n z => n (Int32.toInt_inj.mp z)
    by_cases e1 : kvl A p y = kvl A q y
    · rw [if_pos e1]
      by_cases e2 : kvl A q y = kvl A r y
      · rw [if_pos e2]
        rw [if_pos (e1.trans e2)] at h'
        exact ahd_nt E p q r h'
      · rw [if_neg e2]
        rw [if_neg (fun z => e2 (e1.symm.trans z)), e1] at h'
        exact Or.inr h'
    · rw [if_neg e1]
      have n1 := ti _ _ e1
      by_cases e2 : kvl A q y = kvl A r y
      · rw [if_neg (fun z => e1 (z.trans e2.symm)), ← e2] at h'
        exact Or.inl h'
      · rw [if_neg e2]
        have n2 := ti _ _ e2
        by_cases e3 : kvl A p y = kvl A r y
        · by_cases s : 0 ≤ y.toInt
          · rw [if_pos s, if_pos s]
            have := congrArg Int32.toInt e3
            by_cases c : (kvl A p y).toInt < (kvl A q y).toInt
            · exact Or.inl (decide_eq_true c)
            · exact Or.inr (decide_eq_true (by omega))
          · rw [if_neg s, if_neg s]
            have := congrArg Int32.toInt e3
            by_cases c : (kvl A q y).toInt < (kvl A p y).toInt
            · exact Or.inl (decide_eq_true c)
            · exact Or.inr (decide_eq_true (by omega))
        · rw [if_neg e3] at h'
          by_cases s : 0 ≤ y.toInt
          · rw [if_pos s] at h'
            rw [if_pos s, if_pos s]
            have := of_decide_eq_true h'
            by_cases c : (kvl A p y).toInt < (kvl A q y).toInt
            · exact Or.inl (decide_eq_true c)
            · exact Or.inr (decide_eq_true (by omega))
          · rw [if_neg s] at h'
            rw [if_neg s, if_neg s]
            have := of_decide_eq_true h'
            by_cases c : (kvl A q y).toInt < (kvl A p y).toInt
            · exact Or.inl (decide_eq_true c)
            · exact Or.inr (decide_eq_true (by omega))
/-! a queue, the last one first -/
/-- a strict order in which what isn't ahead is all alike -/
def SWO (lt : Nat → Nat → Bool) : Prop := (∀ p q, lt p q = true → lt q p = false) ∧ ∀ p q r, lt p r = true → lt p q = true ∨ lt q r = true
def rins (lt : Nat → Nat → Bool) (p : Nat) : List Nat → List Nat
  | [] => [p]
  | q :: Q => if lt p q = true then q :: rins lt p Q else p :: q :: Q
def srt (lt : Nat → Nat → Bool) : Nat → List Nat
  | 0 => []
  | k + 1 => rins lt k (srt lt k)
def srtF (lt : Nat → Nat → Bool) (B : Nat → Bool) : Nat → List Nat
  | 0 => []
  | k + 1 => if B k = true then rins lt k (srtF lt B k) else srtF lt B k
def RSD (lt : Nat → Nat → Bool) : List Nat → Prop
  | [] => True
  | q :: Q => (∀ r, r ∈ Q → lt q r = false) ∧ RSD lt Q
theorem SWO_0 : SWO (fun _ _ => false) := ⟨fun _ _ h => absurd (show false = true from h) Bool.false_ne_true, fun _ _ _ h => absurd (show false = true from h) Bool.false_ne_true⟩
theorem SWO_k {A : Nat → Int32} {E : List Int32} : SWO (ahd A E) := ⟨ahd_as E, ahd_nt E⟩
section RQ
variable {lt : Nat → Nat → Bool} {B : Nat → Bool} {p : Nat}
theorem rins_m : ∀ (Q : List Nat) (r : Nat), r ∈ rins lt p Q → r = p ∨ r ∈ Q
  | [], r, h => Or.inl (List.mem_singleton.mp h)
  | q :: Q, r, h => by
    have h' : r ∈ (if lt p q = true then q :: rins lt p Q else p :: q :: Q) := h
    by_cases c : lt p q = true
    · rw [if_pos c] at h'
      rcases List.mem_cons.mp h' with e | e
      · exact Or.inr (e ▸ List.mem_cons_self ..)
      · rcases rins_m Q r e with e | e
        · exact Or.inl e
        · exact Or.inr (List.mem_cons_of_mem _ e)
    · rw [if_neg c] at h'
      rcases List.mem_cons.mp h' with e | e
      · exact Or.inl e
      · exact Or.inr e
theorem rins_l : ∀ Q : List Nat, (rins lt p Q).length = Q.length + 1
  | [] => rfl
  | q :: Q => by
    show (if lt p q = true then q :: rins lt p Q else p :: q :: Q).length = Q.length + 1 + 1
    split
    · show (rins lt p Q).length + 1 = _
      rw [rins_l Q]
    · rfl
/-- who isn't ahead of the last is ahead of none -/
theorem rs_no (hS : SWO lt) {q : Nat} {Q : List Nat} (h : RSD lt (q :: Q)) (c : lt p q = false) : ∀ r, r ∈ q :: Q → lt p r = false := fun r hr => by
  rcases List.mem_cons.mp hr with e | e
  · rw [e]; exact c
  · cases z : lt p r with
    | false => rfl
    | true =>
      rcases hS.2 p q r z with y | y
      · rw [c] at y; cases y
      · rw [h.1 r e] at y; cases y
theorem rins_s (hS : SWO lt) : ∀ Q : List Nat, RSD lt Q → RSD lt (rins lt p Q)
  | [], _ => ⟨fun r hr => (by cases hr), trivial⟩
  | q :: Q, h => by
    show RSD lt (if lt p q = true then q :: rins lt p Q else p :: q :: Q)
    by_cases c : lt p q = true
    · rw [if_pos c]
      refine ⟨fun r hr => ?_, rins_s hS Q h.2⟩
      rcases rins_m Q r hr with e | e
      · rw [e]; exact hS.1 p q c
      · exact h.1 r e
    · rw [if_neg c]
      exact ⟨rs_no hS h (by simpa using c), h⟩
theorem srt_s (hS : SWO lt) : ∀ k, RSD lt (srt lt k)
  | 0 => trivial
  | k + 1 => rins_s hS _ (srt_s hS k)
theorem rins_e : ∀ Q : List Nat, (∀ r, r ∈ Q → lt p r = false) → rins lt p Q = p :: Q
  | [], _ => rfl
  | q :: Q, h => if_neg (by rw [h q (List.mem_cons_self ..)]; decide)
theorem rins_f0 (hB : ¬ B p = true) : ∀ Q : List Nat, (rins lt p Q).filter B = Q.filter B
  | [] => by
    show List.filter B [p] = []
    rw [List.filter_cons_of_neg hB]
    rfl
  | q :: Q => by
    show List.filter B (if lt p q = true then q :: rins lt p Q else p :: q :: Q) = List.filter B (q :: Q)
    split
    · by_cases c : B q = true
      · rw [List.filter_cons_of_pos c, List.filter_cons_of_pos c, rins_f0 hB Q]
      · rw [List.filter_cons_of_neg c, List.filter_cons_of_neg c, rins_f0 hB Q]
    · rw [List.filter_cons_of_neg hB]
theorem rins_f1 (hS : SWO lt) (hB : B p = true) : ∀ Q : List Nat, RSD lt Q → rins lt p (Q.filter B) = (rins lt p Q).filter B
  | [], _ => by
    show [p] = List.filter B [p]
    rw [List.filter_cons_of_pos hB]
    rfl
  | q :: Q, h => by
    have er : rins lt p (q :: Q) = (if lt p q = true then q :: rins lt p Q else p :: q :: Q) := rfl
    rw [er]
    by_cases b : B q = true
    · rw [List.filter_cons_of_pos b]
      show (if lt p q = true then q :: rins lt p (Q.filter B) else p :: q :: Q.filter B) = _
      by_cases c : lt p q = true
      · rw [if_pos c, if_pos c, List.filter_cons_of_pos b, rins_f1 hS hB Q h.2]
      · rw [if_neg c, if_neg c, List.filter_cons_of_pos hB, List.filter_cons_of_pos b]
    · rw [List.filter_cons_of_neg b]
      by_cases c : lt p q = true
      · rw [if_pos c, List.filter_cons_of_neg b, rins_f1 hS hB Q h.2]
      · rw [if_neg c, List.filter_cons_of_pos hB, List.filter_cons_of_neg b]
        exact rins_e _ (fun r hr => rs_no hS h (by simpa using c) r (List.mem_cons_of_mem _ (List.mem_filter.mp hr).1))
theorem srtF_v (hS : SWO lt) : ∀ k, srtF lt B k = (srt lt k).filter B
  | 0 => rfl
  | k + 1 => by
    show (if B k = true then rins lt k (srtF lt B k) else srtF lt B k) = List.filter B (rins lt k (srt lt k))
    rw [srtF_v hS k]
    by_cases c : B k = true
    · rw [if_pos c, rins_f1 hS c _ (srt_s hS k)]
    · rw [if_neg c, rins_f0 c]
theorem srt_m : ∀ (k r : Nat), r ∈ srt lt k → r < k
  | 0, r, h => by cases h
  | k + 1, r, h => by
    rcases rins_m _ r h with e | e
    · omega
    · have := srt_m k r e
      omega
theorem srt_l : ∀ k : Nat, (srt lt k).length = k
  | 0 => rfl
  | k + 1 => by
    show (rins lt k (srt lt k)).length = k + 1
    rw [rins_l, srt_l k]
theorem rins_p : ∀ (Q : List Nat), p ∈ rins lt p Q
  | [] => List.mem_singleton.mpr rfl
  | q :: Q => by
    show p ∈ (if lt p q = true then q :: rins lt p Q else p :: q :: Q)
    split
    · exact List.mem_cons_of_mem _ (rins_p Q)
    · exact List.mem_cons_self ..
theorem rins_q : ∀ (Q : List Nat) (r : Nat), r ∈ Q → r ∈ rins lt p Q
  | q :: Q, r, h => by
    show r ∈ (if lt p q = true then q :: rins lt p Q else p :: q :: Q)
    split
    · rcases List.mem_cons.mp h with e | e
      · rw [e]; exact List.mem_cons_self ..
      · exact List.mem_cons_of_mem _ (rins_q Q r e)
    · exact List.mem_cons_of_mem _ h
theorem srt_all : ∀ (k r : Nat), r < k → r ∈ srt lt k
  | k + 1, r, h => by
    show r ∈ rins lt k (srt lt k)
    by_cases e : r = k
    · rw [e]; exact rins_p _
    · exact rins_q _ r (srt_all k r (by omega))
/-- the first of a queue -/
def qfi : List Nat → Option Nat
  | [] => none
  | q :: Q => match qfi Q with | none => some q | some z => some z
theorem qfi_n : ∀ {Q : List Nat}, qfi Q = none → Q = []
  | [], _ => rfl
  | q :: Q, h => by
    have h' : (match qfi Q with | none => some q | some z => some z) = none := h
    cases c : qfi Q with
    | none => rw [c] at h'; cases h'
    | some z => rw [c] at h'; cases h'
theorem qfi_m : ∀ {Q : List Nat} {z : Nat}, qfi Q = some z → z ∈ Q
  | [], z, h => by cases h
  | q :: Q, z, h => by
    have h' : (match qfi Q with | none => some q | some z => some z) = some z := h
    cases c : qfi Q with
    | none =>
      rw [c] at h'
      exact (Option.some.inj h') ▸ List.mem_cons_self ..
    | some y =>
      rw [c] at h'
      exact List.mem_cons_of_mem _ (qfi_m (c.trans h'))
theorem qfi_c {q : Nat} {Q : List Nat} : qfi (q :: Q) = (match qfi Q with | none => some q | some z => some z) := rfl
theorem rins_fi (hS : SWO lt) : ∀ Q : List Nat, RSD lt Q → qfi (rins lt p Q) = (match qfi Q with | none => some p | some z => if lt p z = true then some p else some z)
  | [], _ => rfl
  | q :: Q, h => by
    have ih := rins_fi hS Q h.2
    have er : rins lt p (q :: Q) = (if lt p q = true then q :: rins lt p Q else p :: q :: Q) := rfl
    rw [er]
    by_cases c : lt p q = true
    · rw [if_pos c, qfi_c, ih, qfi_c]
      cases d : qfi Q with
      | none => simp [c]
      | some z =>
        by_cases e : lt p z = true
        · simp [e]
        · simp [e]
    · rw [if_neg c, qfi_c]
      cases d : qfi (q :: Q) with
      | none => exact absurd (qfi_n d) (by simp)
      | some z =>
        have := rs_no hS h (by simpa using c) z (qfi_m d)
        simp [this]
end RQ
end PK3
