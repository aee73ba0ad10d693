/-! ===== pure: levels, both sides ===== -/
section PU5
variable {I : Nat → Int32} {J : Nat → Int64} {ri : Nat → Nat → Int32} {rj : Nat → Nat → Int64} {rq : Nat → Nat → Option Nat}
theorem isNumber_v {x : Int32} : g_X7_isNumber x = if -5000 < x.toInt then 1 else 0 := by
  have k : (-5000 : Int32).toInt = -5000 := by decide
  rw [g_X7_isNumber_e]
  by_cases h : x ≤ -5000
  · have h1 := Int32.le_iff_toInt_le.mp h
    rw [if_pos h, if_neg (by omega)]
  · have h1 := Int32.lt_iff_toInt_lt.mp (Int32.not_le.mp h)
    rw [if_neg h, if_pos (by omega)]
theorem num0 {x : Int32} : (g_X7_isNumber x = 0) = ¬ (-5000 < x.toInt) := by
  rw [isNumber_v]
  by_cases h : -5000 < x.toInt
  · rw [if_pos h]; exact propext ⟨fun q => absurd q (by decide), fun q => absurd h q⟩
  · rw [if_neg h]; exact propext ⟨fun _ => h, fun _ => rfl⟩
theorem mean_v {a b : Int32} : g_X7_meanOfNumbers a b = mnn a b := by
  rw [g_X7_meanOfNumbers_e]
  simp only [↓ap1_n, num0]
  unfold mnn
  by_cases ha : -5000 < a.toInt
  · rw [if_neg (fun q => q ha), if_pos ha]
    by_cases hb : -5000 < b.toInt
    · rw [if_neg (fun q => q hb), if_pos hb]
    · rw [if_pos hb, if_neg hb]
  · rw [if_pos ha, if_neg ha]
theorem known_v {R M K : Int32} (h0 : 0 ≤ M.toInt) (h6 : M.toInt ≤ 600) (hn0 : 0 ≤ (I 224).toInt) (hn : (I 224).toInt ≤ 200) : g_X7_known R M K I J ri rj rq = (kfin (ri 225) (ri 226) (ri 227) (ri 228) R M K (I 224).toNatClampNeg, I, J, ri, rj, rq) := by
  have zN := clampE (I 224)
  have k5 : (-5000 : Int32).toInt = -5000 := by decide
  have go : ∀ (n : Nat) (x : Int32) (o a b w : Int32), 0 ≤ x.toInt → x.toInt ≤ (I 224).toInt → (200 - x.toInt).toNat < n → o = olk (ri 227) (lst (ri 225) (ri 226) (ri 228) R M K x.toNatClampNeg) → a = olk (ri 227) (lst (ri 225) (ri 226) (ri 228) R (M - 1) K x.toNatClampNeg) → b = olk (ri 227) (lst (ri 225) (ri 226) (ri 228) R (M + 1) K x.toNatClampNeg) → w = kwo (ri 225) (ri 227) (ri 228) R K x.toNatClampNeg → g_X7_known_L23 R M K I J ri rj rq n o a b w x = (kfin (ri 225) (ri 226) (ri 227) (ri 228) R M K (I 224).toNatClampNeg, I, J, ri, rj, rq) := by
    intro n
    induction n with
    | zero => intro x o a b w _ _ h; exact absurd h (Nat.not_lt_zero _)
    | succ n ih =>
      intro x o a b w h1 h2 h3 ho ha hb hw
      have zx := clampE x
      rw [g_X7_known_L23_e]
      simp only [↓ap1_n, num0, g_X7_known_K187, g_X7_known_K179, g_X7_known_K138, mean_v]
      by_cases c : I 224 ≤ x
      · have c1 := Int32.le_iff_toInt_le.mp c
        have ex : x.toNatClampNeg = (I 224).toNatClampNeg := by omega
        rw [ex] at ho ha hb hw
        rw [if_pos c]
        unfold kfin
        rw [← ho, ← ha, ← hb, ← hw]
        unfold fin4
        by_cases q1 : -5000 < o.toInt
        · rw [if_neg (fun q => q q1), if_pos q1]
        · rw [if_pos q1, if_neg q1]
          by_cases q2 : o = -5000
          · have q3 : o.toInt = -5000 := by rw [q2]; exact k5
            rw [if_pos q2]
            by_cases q4 : -5000 < a.toInt
            · rw [if_neg (fun q => q q4), if_pos ⟨q3, Or.inl q4⟩]
            · rw [if_pos q4]
              by_cases q5 : -5000 < b.toInt
              · rw [if_neg (fun q => q q5), if_pos ⟨q3, Or.inr q5⟩]
              · rw [if_pos q5, if_neg (show ¬ (o.toInt = -5000 ∧ (-5000 < a.toInt ∨ -5000 < b.toInt)) from fun q => q.2.elim q4 q5)]
                by_cases q6 : -5000 < w.toInt
                · rw [if_neg (show ¬ ¬ -5000 < w.toInt from fun q => q q6), if_pos q6]
                · rw [if_pos q6, if_neg q6]
          · have q3 : o.toInt ≠ -5000 := fun y => q2 (Int32.toInt_inj.mp (y.trans k5.symm))
            rw [if_neg q2, if_neg (show ¬ (o.toInt = -5000 ∧ (-5000 < a.toInt ∨ -5000 < b.toInt)) from fun q => q3 q.1)]
            by_cases q6 : -5000 < w.toInt
            · rw [if_neg (show ¬ ¬ -5000 < w.toInt from fun q => q q6), if_pos q6]
            · rw [if_pos q6, if_neg q6]
      · have c1 := Int32.lt_iff_toInt_lt.mp (Int32.not_le.mp c)
        have e := t1_inc (x := x) (by omega) (by omega)
        have z3 := clampE (x + Int32.ofInt 1)
        have hx1 : (x + Int32.ofInt 1).toNatClampNeg = x.toNatClampNeg + 1 := by omega
        have m1 : (M - 1).toInt = M.toInt - 1 := i_sub rfl (show (1 : Int32).toInt = 1 by decide) (by omega) (by omega)
        have m2 : (M + 1).toInt = M.toInt + 1 := i_add rfl (show (1 : Int32).toInt = 1 by decide) (by omega) (by omega)
        have ne1 : M ≠ M - 1 := fun q => by have := congrArg Int32.toInt q; omega
        have ne2 : M ≠ M + 1 := fun q => by have := congrArg Int32.toInt q; omega
        have ne3 : M - 1 ≠ M + 1 := fun q => by have := congrArg Int32.toInt q; omega
        rw [if_neg c]
        have skip : ¬ (ri 225 x.toNatClampNeg = R ∧ ri 228 x.toNatClampNeg ≤ K) → g_X7_known_L23 R M K I J ri rj rq n o a b w (x + Int32.ofInt 1) = (kfin (ri 225) (ri 226) (ri 227) (ri 228) R M K (I 224).toNatClampNeg, I, J, ri, rj, rq) := fun hs => by
          refine ih _ _ _ _ _ (by omega) (by omega) (by omega) ?_ ?_ ?_ ?_
          · rw [hx1, lst_e, if_neg (fun q => hs ⟨q.1, q.2.2⟩)]; exact ho
          · rw [hx1, lst_e, if_neg (fun q => hs ⟨q.1, q.2.2⟩)]; exact ha
          · rw [hx1, lst_e, if_neg (fun q => hs ⟨q.1, q.2.2⟩)]; exact hb
          · rw [hx1, kwo_e, if_neg hs]; exact hw
        by_cases q1 : ri 225 x.toNatClampNeg = R
        · rw [if_pos q1]
          by_cases q2 : K < ri 228 x.toNatClampNeg
          · rw [if_pos q2]
            exact skip (fun y => by have a1 := Int32.le_iff_toInt_le.mp y.2; have a2 := Int32.lt_iff_toInt_lt.mp q2; omega)
          · have q3 : ri 228 x.toNatClampNeg ≤ K := Int32.not_lt.mp q2
            have hw1 : (if w < ri 227 x.toNatClampNeg then ri 227 x.toNatClampNeg else w) = kwo (ri 225) (ri 227) (ri 228) R K (x.toNatClampNeg + 1) := by rw [kwo_e, if_pos (show ri 225 x.toNatClampNeg = R ∧ ri 228 x.toNatClampNeg ≤ K from ⟨q1, q3⟩), ← hw]
            rw [if_neg q2]
            by_cases p1 : ri 226 x.toNatClampNeg = M
            · rw [if_pos p1]
              refine ih _ _ _ _ _ (by omega) (by omega) (by omega) ?_ ?_ ?_ ?_
              · rw [hx1, lst_e, if_pos ⟨q1, p1, q3⟩]; rfl
              · rw [hx1, lst_e, if_neg (fun q => ne1 (p1.symm.trans q.2.1))]; exact ha
              · rw [hx1, lst_e, if_neg (fun q => ne2 (p1.symm.trans q.2.1))]; exact hb
              · rw [hx1]; exact hw1
            · rw [if_neg p1]
              by_cases p2 : ri 226 x.toNatClampNeg = M - 1
              · rw [if_pos p2]
                refine ih _ _ _ _ _ (by omega) (by omega) (by omega) ?_ ?_ ?_ ?_
                · rw [hx1, lst_e, if_neg (fun q => p1 q.2.1)]; exact ho
                · rw [hx1, lst_e, if_pos ⟨q1, p2, q3⟩]; rfl
                · rw [hx1, lst_e, if_neg (fun q => ne3 (p2.symm.trans q.2.1))]; exact hb
                · rw [hx1]; exact hw1
              · rw [if_neg p2]
                by_cases p3 : ri 226 x.toNatClampNeg = M + 1
                · rw [if_pos p3]
                  refine ih _ _ _ _ _ (by omega) (by omega) (by omega) ?_ ?_ ?_ ?_
                  · rw [hx1, lst_e, if_neg (fun q => p1 q.2.1)]; exact ho
                  · rw [hx1, lst_e, if_neg (fun q => p2 q.2.1)]; exact ha
                  · rw [hx1, lst_e, if_pos ⟨q1, p3, q3⟩]; rfl
                  · rw [hx1]; exact hw1
                · rw [if_neg p3]
                  refine ih _ _ _ _ _ (by omega) (by omega) (by omega) ?_ ?_ ?_ ?_
                  · rw [hx1, lst_e, if_neg (fun q => p1 q.2.1)]; exact ho
                  · rw [hx1, lst_e, if_neg (fun q => p2 q.2.1)]; exact ha
                  · rw [hx1, lst_e, if_neg (fun q => p3 q.2.1)]; exact hb
                  · rw [hx1]; exact hw1
        · rw [if_neg q1]
          exact skip (fun y => q1 y.1)
  rw [g_X7_known_e]
  have z : (0 : Int32).toNatClampNeg = 0 := by decide
  exact go _ _ _ _ _ _ (by decide) hn0 (Nat.lt_succ_self _) (by rw [z]; rfl) (by rw [z]; rfl) (by rw [z]; rfl) (by rw [z]; rfl)
/-! the reference -/
theorem ixl {c k : Int32} (m : Nat) (hk : k.toInt = (m : Int)) (hm : m ≤ 4) (h0 : 0 ≤ c.toInt) (h1 : c.toInt ≤ 199) : ((1220 : Int32) + (5 : Int32) * c + k).toNatClampNeg = 1220 + m + 5 * c.toNatClampNeg ∧ ((1220 : Int32) + (5 : Int32) * c).toNatClampNeg = 1220 + 5 * c.toNatClampNeg ∧ ((1220 : Int32) + (5 : Int32) * c).toInt = 1220 + 5 * c.toInt := by
  have e0 : ((1220 : Int32) + (5 : Int32) * c).toInt = 1220 + 5 * c.toInt := i_add (show (1220 : Int32).toInt = 1220 by decide) (i_mul (y := c) (show (5 : Int32).toInt = 5 by decide) rfl (by omega) (by omega)) (by omega) (by omega)
  have e := i_add e0 hk (by omega) (by omega)
  have z := clampE ((1220 : Int32) + (5 : Int32) * c + k)
  have z0 := clampE ((1220 : Int32) + (5 : Int32) * c)
  have z1 := clampE c
  exact ⟨by omega, by omega, e0⟩
theorem latest_v {R M K : Int32} (hn0 : 0 ≤ (ri 384 3).toInt) (hn : (ri 384 3).toInt ≤ 200) : ∃ r : Int32, g_X12_latest R M K I J ri rj rq = (r, I, J, ri, rj, rq) ∧ ((lst (A5 (ri 384) 0) (A5 (ri 384) 1) (A5 (ri 384) 4) R M K (ri 384 3).toNatClampNeg = none ∧ r = -1) ∨ ∃ k : Nat, k < (ri 384 3).toNatClampNeg ∧ lst (A5 (ri 384) 0) (A5 (ri 384) 1) (A5 (ri 384) 4) R M K (ri 384 3).toNatClampNeg = some k ∧ r.toInt = 1220 + 5 * (k : Int)) := by
  have zN := clampE (ri 384 3)
  have go : ∀ (n : Nat) (x : Int32), -1 ≤ x.toInt → x.toInt < (ri 384 3).toInt → (x.toInt - (-1)).toNat < n → lst (A5 (ri 384) 0) (A5 (ri 384) 1) (A5 (ri 384) 4) R M K (ri 384 3).toNatClampNeg = lst (A5 (ri 384) 0) (A5 (ri 384) 1) (A5 (ri 384) 4) R M K (x.toInt + 1).toNat → ∃ r : Int32, g_X12_latest_L10 R M K I J ri rj rq n x = (r, I, J, ri, rj, rq) ∧ ((lst (A5 (ri 384) 0) (A5 (ri 384) 1) (A5 (ri 384) 4) R M K (ri 384 3).toNatClampNeg = none ∧ r = -1) ∨ ∃ k : Nat, k < (ri 384 3).toNatClampNeg ∧ lst (A5 (ri 384) 0) (A5 (ri 384) 1) (A5 (ri 384) 4) R M K (ri 384 3).toNatClampNeg = some k ∧ r.toInt = 1220 + 5 * (k : Int)) := by
    intro n
    induction n with
    | zero => intro x _ _ h; exact absurd h (Nat.not_lt_zero _)
    | succ n ih =>
      intro x h1 h2 h3 hl
      have zx := clampE x
      have k0 : (0 : Int32).toInt = 0 := by decide
      rw [g_X12_latest_L10_e]
      simp only [↓ap1_n, g_X12_latest_K65]
      by_cases c : x < 0
      · have c1 := Int32.lt_iff_toInt_lt.mp c
        rw [if_pos c]
        refine ⟨-1, rfl, Or.inl ⟨?_, rfl⟩⟩
        rw [hl, show (x.toInt + 1).toNat = 0 from by omega]
        rfl
      · have c1 := Int32.le_iff_toInt_le.mp (Int32.not_lt.mp c)
        obtain ⟨y, ey, e⟩ : ∃ y : Int32, y = x + Int32.ofInt (-1) ∧ y.toInt = x.toInt - 1 := ⟨_, rfl, i_add (x := x) (y := Int32.ofInt (-1)) rfl (show (Int32.ofInt (-1)).toInt = -1 by decide) (by omega) (by omega)⟩
        have i0 := ixl (c := x) (k := 1) 1 (by decide) (by decide) (by omega) (by omega)
        have i4 := ixl (c := x) (k := 4) 4 (by decide) (by decide) (by omega) (by omega)
        have hx : (x.toInt + 1).toNat = x.toNatClampNeg + 1 := by omega
        rw [if_neg c, i0.2.1, i0.1, i4.1]
        have i3 := i0.2.2
        clear i0 i4
        have a0 : A5 (ri 384) 0 x.toNatClampNeg = ri 384 (1220 + 5 * x.toNatClampNeg) := rfl
        have a1 : A5 (ri 384) 1 x.toNatClampNeg = ri 384 (1220 + 1 + 5 * x.toNatClampNeg) := rfl
        have a4 : A5 (ri 384) 4 x.toNatClampNeg = ri 384 (1220 + 4 + 5 * x.toNatClampNeg) := rfl
        rw [hx, lst_e, a0, a1, a4] at hl
        have skip : ¬ (ri 384 (1220 + 5 * x.toNatClampNeg) = R ∧ ri 384 (1220 + 1 + 5 * x.toNatClampNeg) = M ∧ ri 384 (1220 + 4 + 5 * x.toNatClampNeg) ≤ K) → ∃ r : Int32, g_X12_latest_L10 R M K I J ri rj rq n (x + Int32.ofInt (-1)) = (r, I, J, ri, rj, rq) ∧ ((lst (A5 (ri 384) 0) (A5 (ri 384) 1) (A5 (ri 384) 4) R M K (ri 384 3).toNatClampNeg = none ∧ r = -1) ∨ ∃ k : Nat, k < (ri 384 3).toNatClampNeg ∧ lst (A5 (ri 384) 0) (A5 (ri 384) 1) (A5 (ri 384) 4) R M K (ri 384 3).toNatClampNeg = some k ∧ r.toInt = 1220 + 5 * (k : Int)) := fun hs => by
          rw [if_neg hs] at hl
          rw [← ey]
          exact ih y (by omega) (by omega) (by omega) (by rw [hl, show (y.toInt + 1).toNat = x.toNatClampNeg from by omega])
        by_cases q1 : ri 384 (1220 + 5 * x.toNatClampNeg) = R
        · rw [if_pos q1]
          by_cases q2 : ri 384 (1220 + 1 + 5 * x.toNatClampNeg) = M
          · rw [if_pos q2]
            by_cases q3 : K < ri 384 (1220 + 4 + 5 * x.toNatClampNeg)
            · rw [if_pos q3]
              exact skip (fun y => by have b1 := Int32.le_iff_toInt_le.mp y.2.2; have b2 := Int32.lt_iff_toInt_lt.mp q3; omega)
            · rw [if_neg q3]
              rw [if_pos ⟨q1, q2, Int32.not_lt.mp q3⟩] at hl
              exact ⟨_, rfl, Or.inr ⟨x.toNatClampNeg, by omega, hl, by rw [i3]; omega⟩⟩
          · rw [if_neg q2]
            exact skip (fun y => q2 y.2.1)
        · rw [if_neg q1]
          exact skip (fun y => q1 y.1)
  have e : (ri 384 3 - 1).toInt = (ri 384 3).toInt - 1 := i_sub rfl (show (1 : Int32).toInt = 1 by decide) (by omega) (by omega)
  rw [g_X12_latest_e]
  simp only [↓ap1_n]
  generalize ri 384 3 - 1 = x at e ⊢
  have hlx : lst (A5 (ri 384) 0) (A5 (ri 384) 1) (A5 (ri 384) 4) R M K (ri 384 3).toNatClampNeg = lst (A5 (ri 384) 0) (A5 (ri 384) 1) (A5 (ri 384) 4) R M K (x.toInt + 1).toNat := by
    rw [e, show ((ri 384 3).toInt - 1 + 1).toNat = (ri 384 3).toNatClampNeg from by omega]
  have hg := fun n h => go n x (by omega) (by omega) h hlx
  generalize (x.toInt - (-1)).toNat = m at hg ⊢
  exact hg _ (Nat.lt_succ_self m)
theorem worst_v {R K : Int32} (hn0 : 0 ≤ (ri 384 3).toInt) (hn : (ri 384 3).toInt ≤ 200) : g_X12_worst R K I J ri rj rq = ((wst (A5 (ri 384) 0) (A5 (ri 384) 2) (A5 (ri 384) 3) (A5 (ri 384) 4) R K (ri 384 3).toNatClampNeg).1, I, J, ri, rj, rq) := by
  have zN := clampE (ri 384 3)
  have go : ∀ (n : Nat) (v s x : Int32), 0 ≤ x.toInt → x.toInt ≤ (ri 384 3).toInt → (200 - x.toInt).toNat < n → v = (wst (A5 (ri 384) 0) (A5 (ri 384) 2) (A5 (ri 384) 3) (A5 (ri 384) 4) R K x.toNatClampNeg).1 → ((s = 0 ∧ (wst (A5 (ri 384) 0) (A5 (ri 384) 2) (A5 (ri 384) 3) (A5 (ri 384) 4) R K x.toNatClampNeg).2 = false) ∨ (s = 1 ∧ (wst (A5 (ri 384) 0) (A5 (ri 384) 2) (A5 (ri 384) 3) (A5 (ri 384) 4) R K x.toNatClampNeg).2 = true)) → g_X12_worst_L8 R K I J ri rj rq n v s x = ((wst (A5 (ri 384) 0) (A5 (ri 384) 2) (A5 (ri 384) 3) (A5 (ri 384) 4) R K (ri 384 3).toNatClampNeg).1, I, J, ri, rj, rq) := by
    intro n
    induction n with
    | zero => intro v s x _ _ h; exact absurd h (Nat.not_lt_zero _)
    | succ n ih =>
      intro v s x h1 h2 h3 hv hs
      have zx := clampE x
      rw [g_X12_worst_L8_e]
      simp only [↓ap1_n, g_X12_worst_K99, g_X12_worst_K86]
      by_cases c : ri 384 3 ≤ x
      · have c1 := Int32.le_iff_toInt_le.mp c
        rw [if_pos c, hv, show x.toNatClampNeg = (ri 384 3).toNatClampNeg from by omega]
      · have c1 := Int32.lt_iff_toInt_lt.mp (Int32.not_le.mp c)
        have e := t1_inc (x := x) (by omega) (by omega)
        have z3 := clampE (x + Int32.ofInt 1)
        have hx1 : (x + Int32.ofInt 1).toNatClampNeg = x.toNatClampNeg + 1 := by omega
        have i2 := ixl (c := x) (k := 2) 2 (by decide) (by decide) (by omega) (by omega)
        have i3 := ixl (c := x) (k := 3) 3 (by decide) (by decide) (by omega) (by omega)
        have i4 := ixl (c := x) (k := 4) 4 (by decide) (by decide) (by omega) (by omega)
        rw [if_neg c, i2.2.1, i2.1, i3.1, i4.1]
        have a0 : A5 (ri 384) 0 x.toNatClampNeg = ri 384 (1220 + 5 * x.toNatClampNeg) := rfl
        have a2 : A5 (ri 384) 2 x.toNatClampNeg = ri 384 (1220 + 2 + 5 * x.toNatClampNeg) := rfl
        have a3 : A5 (ri 384) 3 x.toNatClampNeg = ri 384 (1220 + 3 + 5 * x.toNatClampNeg) := rfl
        have a4 : A5 (ri 384) 4 x.toNatClampNeg = ri 384 (1220 + 4 + 5 * x.toNatClampNeg) := rfl
        rw [← a0, ← a2, ← a3, ← a4]
        generalize A5 (ri 384) 0 = r0 at hv hs ih ⊢
        generalize A5 (ri 384) 2 = r2 at hv hs ih ⊢
        generalize A5 (ri 384) 3 = r3 at hv hs ih ⊢
        generalize A5 (ri 384) 4 = r4 at hv hs ih ⊢
        have skip : ¬ (r0 x.toNatClampNeg = R ∧ r2 x.toNatClampNeg ≠ 0 ∧ r4 x.toNatClampNeg ≤ K ∧ ((wst r0 r2 r3 r4 R K x.toNatClampNeg).2 = false ∨ (wst r0 r2 r3 r4 R K x.toNatClampNeg).1 < r3 x.toNatClampNeg)) → g_X12_worst_L8 R K I J ri rj rq n v s (x + Int32.ofInt 1) = ((wst r0 r2 r3 r4 R K (ri 384 3).toNatClampNeg).1, I, J, ri, rj, rq) := fun hk => by
          refine ih _ _ _ (by omega) (by omega) (by omega) ?_ ?_
          · rw [hx1, wst_e, if_neg hk]; exact hv
          · rw [hx1, wst_e, if_neg hk]; exact hs
        have put : r0 x.toNatClampNeg = R ∧ r2 x.toNatClampNeg ≠ 0 ∧ r4 x.toNatClampNeg ≤ K ∧ ((wst r0 r2 r3 r4 R K x.toNatClampNeg).2 = false ∨ (wst r0 r2 r3 r4 R K x.toNatClampNeg).1 < r3 x.toNatClampNeg) → g_X12_worst_L8 R K I J ri rj rq n (r3 x.toNatClampNeg) 1 (x + Int32.ofInt 1) = ((wst r0 r2 r3 r4 R K (ri 384 3).toNatClampNeg).1, I, J, ri, rj, rq) := fun hk => by
          refine ih _ _ _ (by omega) (by omega) (by omega) ?_ ?_
          · rw [hx1, wst_e, if_pos hk]
          · rw [hx1, wst_e, if_pos hk]; exact Or.inr ⟨rfl, rfl⟩
        by_cases q1 : r0 x.toNatClampNeg = R
        · rw [if_pos q1]
          by_cases q2 : r2 x.toNatClampNeg = 0
          · rw [if_pos q2]; exact skip (fun y => y.2.1 q2)
          · rw [if_neg q2]
            by_cases q3 : K < r4 x.toNatClampNeg
            · rw [if_pos q3]
              exact skip (fun y => by have b1 := Int32.le_iff_toInt_le.mp y.2.2.1; have b2 := Int32.lt_iff_toInt_lt.mp q3; omega)
            · rw [if_neg q3]
              rcases hs with ⟨s0, s1⟩ | ⟨s0, s1⟩
              · rw [if_pos s0]
                exact put ⟨q1, q2, Int32.not_lt.mp q3, Or.inl s1⟩
              · rw [if_neg (fun y => by rw [s0] at y; exact absurd y (by decide))]
                by_cases q4 : v < r3 x.toNatClampNeg
                · rw [if_pos q4]
                  exact put ⟨q1, q2, Int32.not_lt.mp q3, Or.inr (by rw [← hv]; exact q4)⟩
                · rw [if_neg q4]
                  exact skip (fun y => by
                    rcases y.2.2.2 with w | w
                    · rw [s1] at w; exact absurd w (by decide)
                    · rw [← hv] at w; exact q4 w)
        · rw [if_neg q1]; exact skip (fun y => q1 y.1)
  rw [g_X12_worst_e]
  have z : (0 : Int32).toNatClampNeg = 0 := by decide
  exact go _ _ _ _ (by decide) hn0 (Nat.lt_succ_self _) (by rw [z]; rfl) (Or.inl ⟨rfl, by rw [z]; rfl⟩)
theorem ad3 {r : Int32} {k m : Nat} (h : r.toInt = 1220 + 5 * (k : Int)) (hk : k < 200) {c : Int32} (hc : c.toInt = (m : Int)) (hm : m ≤ 4) : (r + c).toNatClampNeg = 1220 + m + 5 * k := by
  have e := i_add h hc (by omega) (by omega)
  have z := clampE (r + c)
  omega
theorem levelAt_v {R M K : Int32} (hn0 : 0 ≤ (ri 384 3).toInt) (hn : (ri 384 3).toInt ≤ 200) : g_X12_levelAt R M K I J ri rj rq = (rfin (A5 (ri 384) 0) (A5 (ri 384) 1) (A5 (ri 384) 2) (A5 (ri 384) 3) (A5 (ri 384) 4) R M K (ri 384 3).toNatClampNeg, I, J, ri, rj, rq) := by
  have zN := clampE (ri 384 3)
  have k0 : (0 : Int32).toInt = 0 := by decide
  have km : (-1 : Int32).toInt = -1 := by decide
  obtain ⟨r1, e1, c1⟩ := latest_v (R := R) (M := M) (K := K) (I := I) (J := J) (rj := rj) (rq := rq) hn0 hn
  obtain ⟨r2, e2, c2⟩ := latest_v (R := R) (M := M - 1) (K := K) (I := I) (J := J) (rj := rj) (rq := rq) hn0 hn
  obtain ⟨r3, e3, c3⟩ := latest_v (R := R) (M := M + 1) (K := K) (I := I) (J := J) (rj := rj) (rq := rq) hn0 hn
  have ew := worst_v (R := R) (K := K) (I := I) (J := J) (rj := rj) (rq := rq) hn0 hn
  rw [g_X12_levelAt_e]
  simp only [↓ap1_n, bnI_u, e1, e2, e3, ew, g_X12_levelAt_K114, g_X12_levelAt_K148, g_X12_levelAt_K114_2, g_X12_levelAt_K113, g_X12_levelAt_K89, g_X12_levelAt_K148_2, g_X12_levelAt_K114_3, g_X12_levelAt_K148_3, g_X12_levelAt_K114_4, g_X12_levelAt_K113_2, g_X12_levelAt_K89_2, g_X12_levelAt_K88]
  have A2 : ∀ k : Nat, ri 384 (1220 + 2 + 5 * k) = A5 (ri 384) 2 k := fun _ => rfl
  have A3 : ∀ k : Nat, ri 384 (1220 + 3 + 5 * k) = A5 (ri 384) 3 k := fun _ => rfl
  rcases c1 with ⟨l1, f1⟩ | ⟨k1, g1, l1, f1⟩
  · rw [if_neg (fun q => by have q1 := Int32.le_iff_toInt_le.mp q; rw [f1] at q1; omega)]
    rw [rf_none l1]
  · have p2 := ad3 f1 (by omega) (c := 2) (m := 2) (by decide) (by decide)
    have p3 := ad3 f1 (by omega) (c := 3) (m := 3) (by decide) (by decide)
    rw [if_pos (Int32.le_iff_toInt_le.mpr (by omega)), p2, p3, A2, A3]
    by_cases n1 : A5 (ri 384) 2 k1 = 1
    · rw [if_pos n1, rf_own l1 (by rw [n1]; decide)]
    · have n1' : (A5 (ri 384) 2 k1).toInt ≠ 1 := fun q => n1 (Int32.toInt_inj.mp (q.trans (by decide)))
      rw [if_neg n1]
      rcases c2 with ⟨l2, f2⟩ | ⟨k2, g2, l2, f2⟩
      · rw [if_pos (show r2 < 0 from by rw [f2]; decide)]
        rcases c3 with ⟨l3, f3⟩ | ⟨k3, g3, l3, f3⟩
        · rw [if_pos (show r3 < 0 from by rw [f3]; decide), rf_0 l1 n1' (nmb_0 l2) (nmb_0 l3)]
        · have w2 := ad3 f3 (by omega) (c := 2) (m := 2) (by decide) (by decide)
          have w3 := ad3 f3 (by omega) (c := 3) (m := 3) (by decide) (by decide)
          rw [if_neg (fun q => by have q1 := Int32.lt_iff_toInt_lt.mp q; omega), w2, w3, A2, A3]
          by_cases n3 : A5 (ri 384) 2 k3 = 1
          · rw [if_pos n3, rf_b l1 n1' (nmb_0 l2) (nmb_y l3 (by rw [n3]; decide))]
          · rw [if_neg n3, rf_0 l1 n1' (nmb_0 l2) (nmb_n l3 (fun q => n3 (Int32.toInt_inj.mp (q.trans (by decide)))))]
      · have v2 := ad3 f2 (by omega) (c := 2) (m := 2) (by decide) (by decide)
        have v3 := ad3 f2 (by omega) (c := 3) (m := 3) (by decide) (by decide)
        rw [if_neg (fun q => by have q1 := Int32.lt_iff_toInt_lt.mp q; omega), v2, v3, A2, A3]
        by_cases n2 : A5 (ri 384) 2 k2 = 1
        · rw [if_pos n2]
          rcases c3 with ⟨l3, f3⟩ | ⟨k3, g3, l3, f3⟩
          · rw [if_pos (show r3 < 0 from by rw [f3]; decide), rf_a l1 n1' (nmb_y l2 (by rw [n2]; decide)) (nmb_0 l3)]
          · have w2 := ad3 f3 (by omega) (c := 2) (m := 2) (by decide) (by decide)
            have w3 := ad3 f3 (by omega) (c := 3) (m := 3) (by decide) (by decide)
            rw [if_neg (fun q => by have q1 := Int32.lt_iff_toInt_lt.mp q; omega), w2, w3, A2, A3]
            by_cases n3 : A5 (ri 384) 2 k3 = 1
            · rw [if_pos n3, rf_2 l1 n1' (nmb_y l2 (by rw [n2]; decide)) (nmb_y l3 (by rw [n3]; decide))]
            · rw [if_neg n3, rf_a l1 n1' (nmb_y l2 (by rw [n2]; decide)) (nmb_n l3 (fun q => n3 (Int32.toInt_inj.mp (q.trans (by decide)))))]
        · have n2' : nmb (A5 (ri 384) 2) (A5 (ri 384) 3) (lst (A5 (ri 384) 0) (A5 (ri 384) 1) (A5 (ri 384) 4) R (M - 1) K (ri 384 3).toNatClampNeg) = none := nmb_n l2 (fun q => n2 (Int32.toInt_inj.mp (q.trans (by decide))))
          rw [if_neg n2]
          rcases c3 with ⟨l3, f3⟩ | ⟨k3, g3, l3, f3⟩
          · rw [if_pos (show r3 < 0 from by rw [f3]; decide), rf_0 l1 n1' n2' (nmb_0 l3)]
          · have w2 := ad3 f3 (by omega) (c := 2) (m := 2) (by decide) (by decide)
            have w3 := ad3 f3 (by omega) (c := 3) (m := 3) (by decide) (by decide)
            rw [if_neg (fun q => by have q1 := Int32.lt_iff_toInt_lt.mp q; omega), w2, w3, A2, A3]
            by_cases n3 : A5 (ri 384) 2 k3 = 1
            · rw [if_pos n3, rf_b l1 n1' n2' (nmb_y l3 (by rw [n3]; decide))]
            · rw [if_neg n3, rf_0 l1 n1' n2' (nmb_n l3 (fun q => n3 (Int32.toInt_inj.mp (q.trans (by decide)))))]
end PU5
