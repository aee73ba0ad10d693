/-! ===== pure: levels, both sides ===== -/
section PU5
variable {I : Nat → Int32} {J : Nat → Int64} {ri : Nat → Nat → Int32} {rj : Nat → Nat → Int64} {rq : Nat → Nat → Option Nat}
theorem isNumber_v {x : Int32} : g_X7_isNumber x = if -5000 < x.toInt then 1 else 0 := by
  have k : (-5000 : Int32).toInt = -5000 := by decide
  rw [g_X7_isNumber_e]
  by_cases h : x ≤ -5000
  · have h1 := Int32.le_iff_toInt_le.mp h
    rw [if_pos h, if_neg (by omega)]
  · have h1 := Int32.lt_iff_toInt_lt.mp (Int32.not_le.mp h)
    rw [if_neg h, if_pos (by omega)]
theorem num0 {x : Int32} : (g_X7_isNumber x = 0) = ¬ (-5000 < x.toInt) := by
  rw [isNumber_v]
  by_cases h : -5000 < x.toInt
  · rw [if_pos h]; exact propext ⟨fun q => absurd q (by decide), fun q => absurd h q⟩
  · rw [if_neg h]; exact propext ⟨fun _ => h, fun _ => rfl⟩
theorem mean_v {a b : Int32} : g_X7_meanOfNumbers a b = mnn a b := by
  rw [g_X7_meanOfNumbers_e]
  simp only [↓ap1_n, num0]
  unfold mnn
  by_cases ha : -5000 < a.toInt
  · rw [if_neg (fun q => q ha), if_pos ha]
    by_cases hb : -5000 < b.toInt
    · rw [if_neg (fun q => q hb), if_pos hb]
    · rw [if_pos hb, if_neg hb]
  · rw [if_pos ha, if_neg ha]
theorem known_v {R M K : Int32} (h0 : 0 ≤ M.toInt) (h6 : M.toInt ≤ 600) (hn0 : 0 ≤ (I 224).toInt) (hn : (I 224).toInt ≤ 200) : g_X7_known R M K I J ri rj rq = (kfin (ri 225) (ri 226) (ri 227) (ri 228) R M K (I 224).toNatClampNeg, I, J, ri, rj, rq) := by
  have zN := clampE (I 224)
  have k5 : (-5000 : Int32).toInt = -5000 := by decide
  have go : ∀ (n : Nat) (x : Int32) (o a b w : Int32), 0 ≤ x.toInt → x.toInt ≤ (I 224).toInt → (200 - x.toInt).toNat < n → o = olk (ri 227) (lst (ri 225) (ri 226) (ri 228) R M K x.toNatClampNeg) → a = olk (ri 227) (lst (ri 225) (ri 226) (ri 228) R (M - 1) K x.toNatClampNeg) → b = olk (ri 227) (lst (ri 225) (ri 226) (ri 228) R (M + 1) K x.toNatClampNeg) → w = kwo (ri 225) (ri 227) (ri 228) R K x.toNatClampNeg → g_X7_known_L23 R M K I J ri rj rq n o a b w x = (kfin (ri 225) (ri 226) (ri 227) (ri 228) R M K (I 224).toNatClampNeg, I, J, ri, rj, rq) := by
    intro n
    induction n with
    | zero => intro x o a b w _ _ h; exact absurd h (Nat.not_lt_zero _)
    | succ n ih =>
      intro x o a b w h1 h2 h3 ho ha hb hw
      have zx := clampE x
      rw [g_X7_known_L23_e]
      simp only [↓ap1_n, num0, g_X7_known_K187, g_X7_known_K179, g_X7_known_K138, mean_v]
      by_cases c : I 224 ≤ x
      · have c1 := Int32.le_iff_toInt_le.mp c
        have ex : x.toNatClampNeg = (I 224).toNatClampNeg := by omega
        rw [ex] at ho ha hb hw
        rw [if_pos c]
        unfold kfin
        rw [← ho, ← ha, ← hb, ← hw]
        unfold fin4
        by_cases q1 : -5000 < o.toInt
        · rw [if_neg (fun q => q q1), if_pos q1]
        · rw [if_pos q1, if_neg q1]
          by_cases q2 : o = -5000
          · have q3 : o.toInt = -5000 := by rw [q2]; exact k5
            rw [if_pos q2]
            by_cases q4 : -5000 < a.toInt
            · rw [if_neg (fun q => q q4), if_pos ⟨q3, Or.inl q4⟩]
            · rw [if_pos q4]
              by_cases q5 : -5000 < b.toInt
              · rw [if_neg (fun q => q q5), if_pos ⟨q3, Or.inr q5⟩]
              · rw [if_pos q5, if_neg (show ¬ (o.toInt = -5000 ∧ (-5000 < a.toInt ∨ -5000 < b.toInt)) from fun q => q.2.elim q4 q5)]
                by_cases q6 : -5000 < w.toInt
                · rw [if_neg (show ¬ ¬ -5000 < w.toInt from fun q => q q6), if_pos q6]
                · rw [if_pos q6, if_neg q6]
          · have q3 : o.toInt ≠ -5000 := fun y => q2 (Int32.toInt_inj.mp (y.trans k5.symm))
            rw [if_neg q2, if_neg (show ¬ (o.toInt = -5000 ∧ (-5000 < a.toInt ∨ -5000 < b.toInt)) from fun q => q3 q.1)]
            by_cases q6 : -5000 < w.toInt
            · rw [if_neg (show ¬ ¬ -5000 < w.toInt from fun q => q q6), if_pos q6]
            · rw [if_pos q6, if_neg q6]
      · have c1 := Int32.lt_iff_toInt_lt.mp (Int32.not_le.mp c)
        have e := t1_inc (x := x) (by omega) (by omega)
        have z3 := clampE (x + Int32.ofInt 1)
        have hx1 : (x + Int32.ofInt 1).toNatClampNeg = x.toNatClampNeg + 1 := by omega
        have m1 : (M - 1).toInt = M.toInt - 1 := i_sub rfl (show (1 : Int32).toInt = 1 by decide) (by omega) (by omega)
        have m2 : (M + 1).toInt = M.toInt + 1 := i_add rfl (show (1 : Int32).toInt = 1 by decide) (by omega) (by omega)
        have ne1 : M ≠ M - 1 := fun q => by have := congrArg Int32.toInt q; omega
        have ne2 : M ≠ M + 1 := fun q => by have := congrArg Int32.toInt q; omega
        have ne3 : M - 1 ≠ M + 1 := fun q => by have := congrArg Int32.toInt q; omega
        rw [if_neg c]
        have skip : ¬ (ri 225 x.toNatClampNeg = R ∧ ri 228 x.toNatClampNeg ≤ K) → g_X7_known_L23 R M K I J ri rj rq n o a b w (x + Int32.ofInt 1) = (kfin (ri 225) (ri 226) (ri 227) (ri 228) R M K (I 224).toNatClampNeg, I, J, ri, rj, rq) := fun hs => by
          refine ih _ _ _ _ _ (by omega) (by omega) (by omega) ?_ ?_ ?_ ?_
          · rw [hx1, lst_e, if_neg (fun q => hs ⟨q.1, q.2.2⟩)]; exact ho
          · rw [hx1, lst_e, if_neg (fun q => hs ⟨q.1, q.2.2⟩)]; exact ha
          · rw [hx1, lst_e, if_neg (fun q => hs ⟨q.1, q.2.2⟩)]; exact hb
          · rw [hx1, kwo_e, if_neg hs]; exact hw
        by_cases q1 : ri 225 x.toNatClampNeg = R
        · rw [if_pos q1]
          by_cases q2 : K < ri 228 x.toNatClampNeg
          · rw [if_pos q2]
            exact skip (fun y => by have a1 := Int32.le_iff_toInt_le.mp y.2; have a2 := Int32.lt_iff_toInt_lt.mp q2; omega)
          · have q3 : ri 228 x.toNatClampNeg ≤ K := Int32.not_lt.mp q2
            have hw1 : (if w < ri 227 x.toNatClampNeg then ri 227 x.toNatClampNeg else w) = kwo (ri 225) (ri 227) (ri 228) R K (x.toNatClampNeg + 1) := by rw [kwo_e, if_pos (show ri 225 x.toNatClampNeg = R ∧ ri 228 x.toNatClampNeg ≤ K from ⟨q1, q3⟩), ← hw]
            rw [if_neg q2]
            by_cases p1 : ri 226 x.toNatClampNeg = M
            · rw [if_pos p1]
              refine ih _ _ _ _ _ (by omega) (by omega) (by omega) ?_ ?_ ?_ ?_
              · rw [hx1, lst_e, if_pos ⟨q1, p1, q3⟩]; rfl
              · rw [hx1, lst_e, if_neg (fun q => ne1 (p1.symm.trans q.2.1))]; exact ha
              · rw [hx1, lst_e, if_neg (fun q => ne2 (p1.symm.trans q.2.1))]; exact hb
              · rw [hx1]; exact hw1
            · rw [if_neg p1]
              by_cases p2 : ri 226 x.toNatClampNeg = M - 1
              · rw [if_pos p2]
                refine ih _ _ _ _ _ (by omega) (by omega) (by omega) ?_ ?_ ?_ ?_
                · rw [hx1, lst_e, if_neg (fun q => p1 q.2.1)]; exact ho
                · rw [hx1, lst_e, if_pos ⟨q1, p2, q3⟩]; rfl
                · rw [hx1, lst_e, if_neg (fun q => ne3 (p2.symm.trans q.2.1))]; exact hb
                · rw [hx1]; exact hw1
              · rw [if_neg p2]
                by_cases p3 : ri 226 x.toNatClampNeg = M + 1
                · rw [if_pos p3]
                  refine ih _ _ _ _ _ (by omega) (by omega) (by omega) ?_ ?_ ?_ ?_
                  · rw [hx1, lst_e, if_neg (fun q => p1 q.2.1)]; exact ho
                  · rw [hx1, lst_e, if_neg (fun q => p2 q.2.1)]; exact ha
                  · rw [hx1, lst_e, if_pos ⟨q1, p3, q3⟩]; rfl
                  · rw [hx1]; exact hw1
                · rw [if_neg p3]
                  refine ih _ _ _ _ _ (by omega) (by omega) (by omega) ?_ ?_ ?_ ?_
                  · rw [hx1, lst_e, if_neg (fun q => p1 q.2.1)]; exact ho
                  · rw [hx1, lst_e, if_neg (fun q => p2 q.2.1)]; exact ha
                  · rw [hx1, lst_e, if_neg (fun q => p3 q.2.1)]; exact hb
                  · rw [hx1]; exact hw1
        · rw [if_neg q1]
          exact skip (fun y => q1 y.1)
  rw [g_X7_known_e]
  have z : (0 : Int32).toNatClampNeg = 0 := by decide
  exact go _ _ _ _ _ _ (by decide) hn0 (Nat.lt_succ_self _) (by rw [z]; rfl) (by rw [z]; rfl) (by rw [z]; rfl) (by rw [z]; rfl)
/-! the reference -/
theorem ixl {c k : Int32} (m : Nat) (hk : k.toInt = (m : Int)) (hm : m ≤ 4) (h0 : 0 ≤ c.toInt) (h1 : c.toInt ≤ 199) : ((1220 : Int32) + (5 : Int32) * c + k).toNatClampNeg = 1220 + m + 5 * c.toNatClampNeg ∧ ((1220 : Int32) + (5 : Int32) * c).toNatClampNeg = 1220 + 5 * c.toNatClampNeg ∧ ((1220 : Int32) + (5 : Int32) * c).toInt = 1220 + 5 * c.toInt := by
  have e0 : ((1220 : Int32) + (5 : Int32) * c).toInt = 1220 + 5 * c.toInt := i_add (show (1220 : Int32).toInt = 1220 by decide) (i_mul (y := c) (show (5 : Int32).toInt = 5 by decide) rfl (by omega) (by omega)) (by omega) (by omega)
  have e := i_add e0 hk (by omega) (by omega)
  have z := clampE ((1220 : Int32) + (5 : Int32) * c + k)
  have z0 := clampE ((1220 : Int32) + (5 : Int32) * c)
  have z1 := clampE c
  exact ⟨by omega, by omega, e0⟩
theorem latest_v {R M K : Int32} (hn0 : 0 ≤ (ri 384 3).toInt) (hn : (ri 384 3).toInt ≤ 200) : ∃ r : Int32, g_X12_latest R M K I J ri rj rq = (r, I, J, ri, rj, rq) ∧ ((lst (A5 (ri 384) 0) (A5 (ri 384) 1) (A5 (ri 384) 4) R M K (ri 384 3).toNatClampNeg = none ∧ r = -1) ∨ ∃ k : Nat, k < (ri 384 3).toNatClampNeg ∧ lst (A5 (ri 384) 0) (A5 (ri 384) 1) (A5 (ri 384) 4) R M K (ri 384 3).toNatClampNeg = some k ∧ r.toInt = 1220 + 5 * (k : Int)) := by
  have zN := clampE (ri 384 3)
  have go : ∀ (n : Nat) (x : Int32), -1 ≤ x.toInt → x.toInt < (ri 384 3).toInt → (x.toInt - (-1)).toNat < n → lst (A5 (ri 384) 0) (A5 (ri 384) 1) (A5 (ri 384) 4) R M K (ri 384 3).toNatClampNeg = lst (A5 (ri 384) 0) (A5 (ri 384) 1) (A5 (ri 384) 4) R M K (x.toInt + 1).toNat → ∃ r : Int32, g_X12_latest_L10 R M K I J ri rj rq n x = (r, I, J, ri, rj, rq) ∧ ((lst (A5 (ri 384) 0) (A5 (ri 384) 1) (A5 (ri 384) 4) R M K (ri 384 3).toNatClampNeg = none ∧ r = -1) ∨ ∃ k : Nat, k < (ri 384 3).toNatClampNeg ∧ lst (A5 (ri 384) 0) (A5 (ri 384) 1) (A5 (ri 384) 4) R M K (ri 384 3).toNatClampNeg = some k ∧ r.toInt = 1220 + 5 * (k : Int)) := by
    intro n
    induction n with
    | zero => intro x _ _ h; exact absurd h (Nat.not_lt_zero _)
    | succ n ih =>
      intro x h1 h2 h3 hl
      have zx := clampE x
      have k0 : (0 : Int32).toInt = 0 := by decide
      rw [g_X12_latest_L10_e]
      simp only [↓ap1_n, g_X12_latest_K65]
      by_cases c : x < 0
      · have c1 := Int32.lt_iff_toInt_lt.mp c
        rw [if_pos c]
        refine ⟨-1, rfl, Or.inl ⟨?_, rfl⟩⟩
        rw [hl, show (x.toInt + 1).toNat = 0 from by omega]
        rfl
      · have c1 := Int32.le_iff_toInt_le.mp (Int32.not_lt.mp c)
        obtain ⟨y, ey, e⟩ : ∃ y : Int32, y = x + Int32.ofInt (-1) ∧ y.toInt = x.toInt - 1 := ⟨_, rfl, i_add (x := x) (y := Int32.ofInt (-1)) rfl (show (Int32.ofInt (-1)).toInt = -1 by decide) (by omega) (by omega)⟩
        have i0 := ixl (c := x) (k := 1) 1 (by decide) (by decide) (by omega) (by omega)
        have i4 := ixl (c := x) (k := 4) 4 (by decide) (by decide) (by omega) (by omega)
        have hx : (x.toInt + 1).toNat = x.toNatClampNeg + 1 := by omega
        rw [if_neg c, i0.2.1, i0.1, i4.1]
        have i3 := i0.2.2
        clear i0 i4
        have a0 : A5 (ri 384) 0 x.toNatClampNeg = ri 384 (1220 + 5 * x.toNatClampNeg) := rfl
        have a1 : A5 (ri 384) 1 x.toNatClampNeg = ri 384 (1220 + 1 + 5 * x.toNatClampNeg) := rfl
        have a4 : A5 (ri 384) 4 x.toNatClampNeg = ri 384 (1220 + 4 + 5 * x.toNatClampNeg) := rfl
        rw [hx, lst_e, a0, a1, a4] at hl
        have skip : ¬ (ri 384 (1220 + 5 * x.toNatClampNeg) = R ∧ ri 384 (1220 + 1 + 5 * x.toNatClampNeg) = M ∧ ri 384 (1220 + 4 + 5 * x.toNatClampNeg) ≤ K) → ∃ r : Int32, g_X12_latest_L10 R M K I J ri rj rq n (x + Int32.ofInt (-1)) = (r, I, J, ri, rj, rq) ∧ ((lst (A5 (ri 384) 0) (A5 (ri 384) 1) (A5 (ri 384) 4) R M K (ri 384 3).toNatClampNeg = none ∧ r = -1) ∨ ∃ k : Nat, k < (ri 384 3).toNatClampNeg ∧ lst (A5 (ri 384) 0) (A5 (ri 384) 1) (A5 (ri 384) 4) R M K (ri 384 3).toNatClampNeg = some k ∧ r.toInt = 1220 + 5 * (k : Int)) := fun hs => by
          rw [if_neg hs] at hl
          rw [← ey]
          exact ih y (by omega) (by omega) (by omega) (by rw [hl, show (y.toInt + 1).toNat = x.toNatClampNeg from by omega])
        by_cases q1 : ri 384 (1220 + 5 * x.toNatClampNeg) = R
        · rw [if_pos q1]
          by_cases q2 : ri 384 (1220 + 1 + 5 * x.toNatClampNeg) = M
          · rw [if_pos q2]
            by_cases q3 : K < ri 384 (1220 + 4 + 5 * x.toNatClampNeg)
            · rw [if_pos q3]
              exact skip (fun y => by have b1 := Int32.le_iff_toInt_le.mp y.2.2; have b2 := Int32.lt_iff_toInt_lt.mp q3; omega)
            · rw [if_neg q3]
              rw [if_pos ⟨q1, q2, Int32.not_lt.mp q3⟩] at hl
              exact ⟨_, rfl, Or.inr ⟨x.toNatClampNeg, by omega, hl, by rw [i3]; omega⟩⟩
          · rw [if_neg q2]
            exact skip (fun y => q2 y.2.1)
        · rw [if_neg q1]
          exact skip (fun y => q1 y.1)
  have e : (ri 384 3 - 1).toInt = (ri 384 3).toInt - 1 := i_sub rfl (show (1 : Int32).toInt = 1 by decide) (by omega) (by omega)
  rw [g_X12_latest_e]
  simp only [↓ap1_n]
  generalize ri 384 3 - 1 = x at e ⊢
  have hlx : lst (A5 (ri 384) 0) (A5 (ri 384) 1) (A5 (ri 384) 4) R M K (ri 384 3).toNatClampNeg = lst (A5 (ri 384) 0) (A5 (ri 384) 1) (A5 (ri 384) 4) R M K (x.toInt + 1).toNat := by
    rw [e, show ((ri 384 3).toInt - 1 + 1).toNat = (ri 384 3).toNatClampNeg from by omega]
  have hg := fun n h => go n x (by omega) (by omega) h hlx
  generalize (x.toInt - (-1)).toNat = m at hg ⊢
  exact hg _ (Nat.lt_succ_self m)
theorem worst_v {R K : Int32} (hn0 : 0 ≤ (ri 384 3).toInt) (hn : (ri 384 3).toInt ≤ 200) : g_X12_worst R K I J ri rj rq = ((wst (A5 (ri 384) 0) (A5 (ri 384) 2) (A5 (ri 384) 3) (A5 (ri 384) 4) R K (ri 384 3).toNatClampNeg).1, I, J, ri, rj, rq) := by
  have zN := clampE (ri 384 3)
  have go : ∀ (n : Nat) (v s x : Int32), 0 ≤ x.toInt → x.toInt ≤ (ri 384 3).toInt → (200 - x.toInt).toNat < n → v = (wst (A5 (ri 384) 0) (A5 (ri 384) 2) (A5 (ri 384) 3) (A5 (ri 384) 4) R K x.toNatClampNeg).1 → ((s = 0 ∧ (wst (A5 (ri 384) 0) (A5 (ri 384) 2) (A5 (ri 384) 3) (A5 (ri 384) 4) R K x.toNatClampNeg).2 = false) ∨ (s = 1 ∧ (wst (A5 (ri 384) 0) (A5 (ri 384) 2) (A5 (ri 384) 3) (A5 (ri 384) 4) R K x.toNatClampNeg).2 = true)) → g_X12_worst_L8 R K I J ri rj rq n v s x = ((wst (A5 (ri 384) 0) (A5 (ri 384) 2) (A5 (ri 384) 3) (A5 (ri 384) 4) R K (ri 384 3).toNatClampNeg).1, I, J, ri, rj, rq) := by
    intro n
    induction n with
    | zero => intro v s x _ _ h; exact absurd h (Nat.not_lt_zero _)
    | succ n ih =>
      intro v s x h1 h2 h3 hv hs
      have zx := clampE x
      rw [g_X12_worst_L8_e]
      simp only [↓ap1_n, g_X12_worst_K99, g_X12_worst_K86]
      by_cases c : ri 384 3 ≤ x
      · have c1 := Int32.le_iff_toInt_le.mp c
        rw [if_pos c, hv, show x.toNatClampNeg = (ri 384 3).toNatClampNeg from by omega]
      · have c1 := Int32.lt_iff_toInt_lt.mp (Int32.not_le.mp c)
        have e := t1_inc (x := x) (by omega) (by omega)
        have z3 := clampE (x + Int32.ofInt 1)
        have hx1 : (x + Int32.ofInt 1).toNatClampNeg = x.toNatClampNeg + 1 := by omega
        have i2 := ixl (c := x) (k := 2) 2 (by decide) (by decide) (by omega) (by omega)
        have i3 := ixl (c := x) (k := 3) 3 (by decide) (by decide) (by omega) (by omega)
        have i4 := ixl (c := x) (k := 4) 4 (by decide) (by decide) (by omega) (by omega)
        rw [if_neg c, i2.2.1, i2.1, i3.1, i4.1]
        have a0 : A5 (ri 384) 0 x.toNatClampNeg = ri 384 (1220 + 5 * x.toNatClampNeg) := rfl
        have a2 : A5 (ri 384) 2 x.toNatClampNeg = ri 384 (1220 + 2 + 5 * x.toNatClampNeg) := rfl
        have a3 : A5 (ri 384) 3 x.toNatClampNeg = ri 384 (1220 + 3 + 5 * x.toNatClampNeg) := rfl
        have a4 : A5 (ri 384) 4 x.toNatClampNeg = ri 384 (1220 + 4 + 5 * x.toNatClampNeg) := rfl
        rw [← a0, ← a2, ← a3, ← a4]
        generalize A5 (ri 384) 0 = r0 at hv hs ih ⊢
        generalize A5 (ri 384) 2 = r2 at hv hs ih ⊢
        generalize A5 (ri 384) 3 = r3 at hv hs ih ⊢
        generalize A5 (ri 384) 4 = r4 at hv hs ih ⊢
        have skip : ¬ (r0 x.toNatClampNeg = R ∧ r2 x.toNatClampNeg ≠ 0 ∧ r4 x.toNatClampNeg ≤ K ∧ ((wst r0 r2 r3 r4 R K x.toNatClampNeg).2 = false ∨ (wst r0 r2 r3 r4 R K x.toNatClampNeg).1 < r3 x.toNatClampNeg)) → g_X12_worst_L8 R K I J ri rj rq n v s (x + Int32.ofInt 1) = ((wst r0 r2 r3 r4 R K (ri 384 3).toNatClampNeg).1, I, J, ri, rj, rq) := fun hk => by
          refine ih _ _ _ (by omega) (by omega) (by omega) ?_ ?_
          · rw [hx1, wst_e, if_neg hk]; exact hv
          · rw [hx1, wst_e, if_neg hk]; exact hs
        have put : r0 x.toNatClampNeg = R ∧ r2 x.toNatClampNeg ≠ 0 ∧ r4 x.toNatClampNeg ≤ K ∧ ((wst r0 r2 r3 r4 R K x.toNatClampNeg).2 = false ∨ (wst r0 r2 r3 r4 R K x.toNatClampNeg).1 < r3 x.toNatClampNeg) → g_X12_worst_L8 R K I J ri rj rq n (r3 x.toNatClampNeg) 1 (x + Int32.ofInt 1) = ((wst r0 r2 r3 r4 R K (ri 384 3).toNatClampNeg).1, I, J, ri, rj, rq) := fun hk => by
          refine ih _ _ _ (by omega) (by omega) (by omega) ?_ ?_
          · rw [hx1, wst_e, if_pos hk]
          · rw [hx1, wst_e, if_pos hk]; exact Or.inr ⟨rfl, rfl⟩
        by_cases q1 : r0 x.toNatClampNeg = R
        · rw [if_pos q1]
          by_cases q2 : r2 x.toNatClampNeg = 0
          · rw [if_pos q2]; exact skip (fun y => y.2.1 q2)
          · rw [if_neg q2]
            by_cases q3 : K < r4 x.toNatClampNeg
            · rw [if_pos q3]
              exact skip (fun y => by have b1 := Int32.le_iff_toInt_le.mp y.2.2.1; have b2 := Int32.lt_iff_toInt_lt.mp q3; omega)
            · rw [if_neg q3]
              rcases hs with ⟨s0, s1⟩ | ⟨s0, s1⟩
              · rw [if_pos s0]
                exact put ⟨q1, q2, Int32.not_lt.mp q3, Or.inl s1⟩
              · rw [if_neg (fun y => by rw [s0] at y; exact absurd y (by decide))]
                by_cases q4 : v < r3 x.toNatClampNeg
                · rw [if_pos q4]
                  exact put ⟨q1, q2, Int32.not_lt.mp q3, Or.inr (by rw [← hv]; exact q4)⟩
                · rw [if_neg q4]
                  exact skip (fun y => by
                    rcases y.2.2.2 with w | w
                    · rw [s1] at w; exact absurd w (by decide)
                    · rw [← hv] at w; exact q4 w)
        · rw [if_neg q1]; exact skip (fun y => q1 y.1)
  rw [g_X12_worst_e]
  have z : (0 : Int32).toNatClampNeg = 0 := by decide
  exact go _ _ _ _ (by decide) hn0 (Nat.lt_succ_self _) (by rw [z]; rfl) (Or.inl ⟨rfl, by rw [z]; rfl⟩)
theorem ad3 {r : Int32} {k m : Nat} (h : r.toInt = 1220 + 5 * (k : Int)) (hk : k < 200) {c : Int32} (hc : c.toInt = (m : Int)) (hm : m ≤ 4) : (r + c).toNatClampNeg = 1220 + m + 5 * k := by
  have e := i_add h hc (by omega) (by omega)
  have z := clampE (r + c)
  omega
theorem levelAt_v {R M K : Int32} (hn0 : 0 ≤ (ri 384 3).toInt) (hn : (ri 384 3).toInt ≤ 200) : g_X12_levelAt R M K I J ri rj rq = (rfin (A5 (ri 384) 0) (A5 (ri 384) 1) (A5 (ri 384) 2) (A5 (ri 384) 3) (A5 (ri 384) 4) R M K (ri 384 3).toNatClampNeg, I, J, ri, rj, rq) := by
  have zN := clampE (ri 384 3)
  have k0 : (0 : Int32).toInt = 0 := by decide
  have km : (-1 : Int32).toInt = -1 := by decide
  obtain ⟨r1, e1, c1⟩ := latest_v (R := R) (M := M) (K := K) (I := I) (J := J) (rj := rj) (rq := rq) hn0 hn
  obtain ⟨r2, e2, c2⟩ := latest_v (R := R) (M := M - 1) (K := K) (I := I) (J := J) (rj := rj) (rq := rq) hn0 hn
  obtain ⟨r3, e3, c3⟩ := latest_v (R := R) (M := M + 1) (K := K) (I := I) (J := J) (rj := rj) (rq := rq) hn0 hn
  have ew := worst_v (R := R) (K := K) (I := I) (J := J) (rj := rj) (rq := rq) hn0 hn
  rw [g_X12_levelAt_e]
  simp only [↓ap1_n, bnI_u, e1, e2, e3, ew, g_X12_levelAt_K114, g_X12_levelAt_K148, g_X12_levelAt_K114_2, g_X12_levelAt_K113, g_X12_levelAt_K89, g_X12_levelAt_K148_2, g_X12_levelAt_K114_3, g_X12_levelAt_K148_3, g_X12_levelAt_K114_4, g_X12_levelAt_K113_2, g_X12_levelAt_K89_2, g_X12_levelAt_K88]
  have A2 : ∀ k : Nat, ri 384 (1220 + 2 + 5 * k) = A5 (ri 384) 2 k := fun _ => rfl
  have A3 : ∀ k : Nat, ri 384 (1220 + 3 + 5 * k) = A5 (ri 384) 3 k := fun _ => rfl
  rcases c1 with ⟨l1, f1⟩ | ⟨k1, g1, l1, f1⟩
  · rw [if_neg (fun q => by have q1 := Int32.le_iff_toInt_le.mp q; rw [f1] at q1; omega)]
    rw [rf_none l1]
  · have p2 := ad3 f1 (by omega) (c := 2) (m := 2) (by decide) (by decide)
    have p3 := ad3 f1 (by omega) (c := 3) (m := 3) (by decide) (by decide)
    rw [if_pos (Int32.le_iff_toInt_le.mpr (by omega)), p2, p3, A2, A3]
    by_cases n1 : A5 (ri 384) 2 k1 = 1
    · rw [if_pos n1, rf_own l1 (by rw [n1]; decide)]
    · have n1' : (A5 (ri 384) 2 k1).toInt ≠ 1 := fun q => n1 (Int32.toInt_inj.mp (q.trans (by decide)))
      rw [if_neg n1]
      rcases c2 with ⟨l2, f2⟩ | ⟨k2, g2, l2, f2⟩
      · rw [if_pos (show r2 < 0 from by rw [f2]; decide)]
        rcases c3 with ⟨l3, f3⟩ | ⟨k3, g3, l3, f3⟩
        · rw [if_pos (show r3 < 0 from by rw [f3]; decide), rf_0 l1 n1' (nmb_0 l2) (nmb_0 l3)]
        · have w2 := ad3 f3 (by omega) (c := 2) (m := 2) (by decide) (by decide)
          have w3 := ad3 f3 (by omega) (c := 3) (m := 3) (by decide) (by decide)
          rw [if_neg (fun q => by have q1 := Int32.lt_iff_toInt_lt.mp q; omega), w2, w3, A2, A3]
          by_cases n3 : A5 (ri 384) 2 k3 = 1
          · rw [if_pos n3, rf_b l1 n1' (nmb_0 l2) (nmb_y l3 (by rw [n3]; decide))]
          · rw [if_neg n3, rf_0 l1 n1' (nmb_0 l2) (nmb_n l3 (fun q => n3 (Int32.toInt_inj.mp (q.trans (by decide)))))]
      · have v2 := ad3 f2 (by omega) (c := 2) (m := 2) (by decide) (by decide)
        have v3 := ad3 f2 (by omega) (c := 3) (m := 3) (by decide) (by decide)
        rw [if_neg (fun q => by have q1 := Int32.lt_iff_toInt_lt.mp q; omega), v2, v3, A2, A3]
        by_cases n2 : A5 (ri 384) 2 k2 = 1
        · rw [if_pos n2]
          rcases c3 with ⟨l3, f3⟩ | ⟨k3, g3, l3, f3⟩
          · rw [if_pos (show r3 < 0 from by rw [f3]; decide), rf_a l1 n1' (nmb_y l2 (by rw [n2]; decide)) (nmb_0 l3)]
          · have w2 := ad3 f3 (by omega) (c := 2) (m := 2) (by decide) (by decide)
            have w3 := ad3 f3 (by omega) (c := 3) (m := 3) (by decide) (by decide)
            rw [if_neg (fun q => by have q1 := Int32.lt_iff_toInt_lt.mp q; omega), w2, w3, A2, A3]
            by_cases n3 : A5 (ri 384) 2 k3 = 1
            · rw [if_pos n3, rf_2 l1 n1' (nmb_y l2 (by rw [n2]; decide)) (nmb_y l3 (by rw [n3]; decide))]
            · rw [if_neg n3, rf_a l1 n1' (nmb_y l2 (by rw [n2]; decide)) (nmb_n l3 (fun q => n3 (Int32.toInt_inj.mp (q.trans (by decide)))))]
        · have n2' : nmb (A5 (ri 384) 2) (A5 (ri 384) 3) (lst (A5 (ri 384) 0) (A5 (ri 384) 1) (A5 (ri 384) 4) R (M - 1) K (ri 384 3).toNatClampNeg) = none := nmb_n l2 (fun q => n2 (Int32.toInt_inj.mp (q.trans (by decide))))
          rw [if_neg n2]
          rcases c3 with ⟨l3, f3⟩ | ⟨k3, g3, l3, f3⟩
          · rw [if_pos (show r3 < 0 from by rw [f3]; decide), rf_0 l1 n1' n2' (nmb_0 l3)]
          · have w2 := ad3 f3 (by omega) (c := 2) (m := 2) (by decide) (by decide)
            have w3 := ad3 f3 (by omega) (c := 3) (m := 3) (by decide) (by decide)
            rw [if_neg (fun q => by have q1 := Int32.lt_iff_toInt_lt.mp q; omega), w2, w3, A2, A3]
            by_cases n3 : A5 (ri 384) 2 k3 = 1
            · rw [if_pos n3, rf_b l1 n1' n2' (nmb_y l3 (by rw [n3]; decide))]
            · rw [if_neg n3, rf_0 l1 n1' n2' (nmb_n l3 (fun q => n3 (Int32.toInt_inj.mp (q.trans (by decide)))))]
end PU5
/-! ===== pure: the tides of the reference ===== -/
section PU6
variable {I : Nat → Int32} {J : Nat → Int64} {ri : Nat → Nat → Int32} {rj : Nat → Nat → Int64} {rq : Nat → Nat → Option Nat}
/-- what the tides write of one CELL -/
def sea1 (c : Nat) (v : Int32) (A B : Nat → Int32) : Prop := B (100 + 16 * c + 12) = v ∧ ∀ i, (∀ k, k ∈ [7, 9, 10, 11, 12, 13] → i ≠ 100 + 16 * c + k) → B i = A i
theorem sea1_0 {c : Nat} {v : Int32} {A : Nat → Int32} : sea1 c v A (upd A (100 + 16 * c + 12) v) := ⟨upd_s _ _ _, fun i h => upd_n _ _ (h 12 (by decide))⟩
theorem sea1_k {c k : Nat} {v w : Int32} {A B : Nat → Int32} (h : sea1 c v A B) (hk : k ∈ [7, 9, 10, 11, 13]) : sea1 c v A (upd B (100 + 16 * c + k) w) := by
  have h12 : k ≠ 12 := fun e => by subst e; exact absurd hk (by decide)
  have hm : k ∈ [7, 9, 10, 11, 12, 13] := by
    simp only [List.mem_cons, List.not_mem_nil, or_false] at hk ⊢
    omega
  exact ⟨(upd_n _ _ (by omega)).trans h.1, fun i hi => (upd_n _ _ (hi k hm)).trans (h.2 i hi)⟩
theorem topOf_m {x : Int32} (h0 : 0 ≤ x.toInt) (h1 : x.toInt ≤ 39) : g_X12_topOf x I J ri rj rq = (ri 384 (100 + 16 * x.toNatClampNeg + 1) + ri 384 (100 + 16 * x.toNatClampNeg + 4) + ri 384 (100 + 16 * x.toNatClampNeg + 5) / 4 + ri 384 (100 + 16 * x.toNatClampNeg + 6), I, J, ri, rj, rq) := by
  rw [← ixk (c := x) (k := 1) 1 (by decide) (by decide) h0 h1, ← ixk (c := x) (k := 4) 4 (by decide) (by decide) h0 h1, ← ixk (c := x) (k := 5) 5 (by decide) (by decide) h0 h1, ← ixk (c := x) (k := 6) 6 (by decide) (by decide) h0 h1]
  rfl
theorem tableAt_m1 {m : Int32} (h0 : 0 ≤ m.toInt) (h1 : m.toInt ≤ 2147483647) : g_X12_tableAt_c1 m I J ri rj rq = (ri 384 (20 + 5 * (tmod m).toNatClampNeg + 1), I, J, ri, rj, rq) := by
  have tm := tmod_r h0 h1
  rw [← ixt (x := tmod m) (k := 1) 1 (by decide) (by decide) tm.1 tm.2]
  rfl
theorem tableAt_m4 {m : Int32} : g_X12_tableAt_c4 m I J ri rj rq = (ri 384 ((20 : Int32) + (5 : Int32) * tmod m + 4).toNatClampNeg, I, J, ri, rj, rq) := rfl
/-- the TOP of a CELL of the reference's row -/
def topA (A : Nat → Int32) (c : Nat) : Int32 := A (100 + 16 * c + 1) + A (100 + 16 * c + 4) + A (100 + 16 * c + 5) / 4 + A (100 + 16 * c + 6)
/-- all but what the tides write -/
def ztq (f g : Nat → Int32) : Prop := ∀ i, (i < 2520 ∨ 3720 ≤ i) → (∀ c k, c < 40 → k ∈ [7, 9, 10, 11, 12, 13] → i ≠ 100 + 16 * c + k) → g i = f i
theorem zt_rf {f : Nat → Int32} : ztq f f := fun _ _ _ => rfl
theorem zt_tr {f g h : Nat → Int32} (a : ztq f g) (b : ztq g h) : ztq f h := fun i x y => (b i x y).trans (a i x y)
theorem zt_1 {f g : Nat → Int32} {c : Nat} {v : Int32} (h : sea1 c v f g) (hc : c < 40) : ztq f g := fun i _ y => h.2 i (fun k hk => y c k hc hk)
theorem zt_r {f : Nat → Int32} {k : Nat} {v : Int32} (h0 : 2520 ≤ k) (h1 : k < 3720) : ztq f (upd f k v) := fun i x _ => upd_n _ _ (by omega)
/-- how the turns behind one CELL end -/
def SSC (I : Nat → Int32) (J : Nat → Int64) (ri : Nat → Nat → Int32) (rj : Nat → Nat → Int64) (rq : Nat → Nat → Option Nat) (m lv : Int32) (X : vM) : Prop := ∃ B : Nat → Int32, X = (I, J, va_up ri 384 B, rj, rq) ∧ ztq (ri 384) B ∧ ∀ c, c < (ri 384 2).toNatClampNeg → B (100 + 16 * c + 12) = if topA (ri 384) c ≤ lv + ri 384 (20 + 5 * (tmod m).toNatClampNeg + 1) then 0 else 1
theorem seaStands_v {m lv : Int32} (hm0 : 0 ≤ m.toInt) (hm1 : m.toInt < 600) (h0 : 0 ≤ (ri 384 2).toInt) (h40 : (ri 384 2).toInt ≤ 40) : ∃ B : Nat → Int32, g_X12_seaStands m lv I J ri rj rq = (I, J, va_up ri 384 B, rj, rq) ∧ ztq (ri 384) B ∧ ∀ c, c < (ri 384 2).toNatClampNeg → B (100 + 16 * c + 12) = if topA (ri 384) c ≤ lv + ri 384 (20 + 5 * (tmod m).toNatClampNeg + 1) then 0 else 1 := by
  have zN := clampE (ri 384 2)
  have tm := tmod_r hm0 (by omega)
  have ztq' := clampE (tmod m)
  have topZ : ∀ A : Nat → Int32, ztq (ri 384) A → ∀ c, c < 40 → topA A c = topA (ri 384) c := fun A hA c hc => by
    have p : ∀ k, k ∈ [1, 4, 5, 6] → A (100 + 16 * c + k) = ri 384 (100 + 16 * c + k) := fun k hk => hA _ (Or.inl (by simp only [List.mem_cons, List.not_mem_nil, or_false] at hk; omega)) (fun c2 k2 h2 h3 => by simp only [List.mem_cons, List.not_mem_nil, or_false] at hk h3; omega)
    unfold topA
    rw [p 1 (by decide), p 4 (by decide), p 5 (by decide), p 6 (by decide)]
  have go : ∀ (n : Nat) (a b x : Int32) (A : Nat → Int32), 0 ≤ x.toInt → x.toInt ≤ (ri 384 2).toInt → (40 - x.toInt).toNat < n → ztq (ri 384) A → (∀ c, c < x.toNatClampNeg → A (100 + 16 * c + 12) = if topA (ri 384) c ≤ lv + ri 384 (20 + 5 * (tmod m).toNatClampNeg + 1) then 0 else 1) → ∃ B : Nat → Int32, g_X12_seaStands_L8 m lv I J ri rj rq n a b x (va_up ri 384 A) = (I, J, va_up ri 384 B, rj, rq) ∧ ztq (ri 384) B ∧ ∀ c, c < (ri 384 2).toNatClampNeg → B (100 + 16 * c + 12) = if topA (ri 384) c ≤ lv + ri 384 (20 + 5 * (tmod m).toNatClampNeg + 1) then 0 else 1 := by
    intro n
    induction n with
    | zero => intro a b x A _ _ h; exact absurd h (Nat.not_lt_zero _)
    | succ n ih =>
      intro a b x A h1 h2 h3 hA hv
      have zx := clampE x
      by_cases c : ri 384 2 ≤ x
      · have c1 := Int32.le_iff_toInt_le.mp c
        rw [g_X12_seaStands_L8_e]
        simp only [↓ap1_n, bnI_u]
        rw [if_pos c]
        have w1 : ((2520 : Int32) + (2 : Int32) * m).toNatClampNeg = 2520 + 2 * m.toNatClampNeg ∧ ((2520 : Int32) + (2 : Int32) * m + 1).toNatClampNeg = 2520 + 2 * m.toNatClampNeg + 1 := by
          have e0 : ((2520 : Int32) + (2 : Int32) * m).toInt = 2520 + 2 * m.toInt := i_add (show (2520 : Int32).toInt = 2520 by decide) (i_mul (y := m) (show (2 : Int32).toInt = 2 by decide) rfl (by omega) (by omega)) (by omega) (by omega)
          have e1 := t1_one (x := (2520 : Int32) + (2 : Int32) * m) (by omega) (by omega)
          have y0 := clampE ((2520 : Int32) + (2 : Int32) * m)
          have y1 := clampE ((2520 : Int32) + (2 : Int32) * m + 1)
          have y2 := clampE m
          exact ⟨by omega, by omega⟩
        have y2 := clampE m
        rw [w1.1, w1.2, va_up_self, up_up, va_up_self, up_up]
        refine ⟨_, rfl, zt_tr hA (zt_tr (zt_r (by omega) (by omega)) (zt_r (by omega) (by omega))), fun c hc => ?_⟩
        rw [upd_n _ _ (by omega), upd_n _ _ (by omega)]
        exact hv c (by omega)
      · have c1 := Int32.lt_iff_toInt_lt.mp (Int32.not_le.mp c)
        have e := t1_inc (x := x) (by omega) (by omega)
        have z3 := clampE (x + Int32.ofInt 1)
        have hx1 : (x + Int32.ofInt 1).toNatClampNeg = x.toNatClampNeg + 1 := by omega
        have i7 := ixk (c := x) (k := 7) 7 (by decide) (by decide) h1 (by omega)
        have i8 := ixk (c := x) (k := 8) 8 (by decide) (by decide) h1 (by omega)
        have i9 := ixk (c := x) (k := 9) 9 (by decide) (by decide) h1 (by omega)
        have i10 := ixk (c := x) (k := 10) 10 (by decide) (by decide) h1 (by omega)
        have i11 := ixk (c := x) (k := 11) 11 (by decide) (by decide) h1 (by omega)
        have i12 := ixk (c := x) (k := 12) 12 (by decide) (by decide) h1 (by omega)
        have i13 := ixk (c := x) (k := 13) 13 (by decide) (by decide) h1 (by omega)
        -- the next turn, whatever else was written of this CELL
        have fin : ∀ (v : Int32) (B : Nat → Int32) (a b : Int32), v = (if topA (ri 384) x.toNatClampNeg ≤ lv + ri 384 (20 + 5 * (tmod m).toNatClampNeg + 1) then 0 else 1) → sea1 x.toNatClampNeg v A B → ∃ B2 : Nat → Int32, g_X12_seaStands_L8 m lv I J ri rj rq n a b (x + Int32.ofInt 1) (va_up ri 384 B) = (I, J, va_up ri 384 B2, rj, rq) ∧ ztq (ri 384) B2 ∧ ∀ c, c < (ri 384 2).toNatClampNeg → B2 (100 + 16 * c + 12) = if topA (ri 384) c ≤ lv + ri 384 (20 + 5 * (tmod m).toNatClampNeg + 1) then 0 else 1 := fun v B a b hvv hs => by
          refine ih _ _ _ _ (by omega) (by omega) (by omega) (zt_tr hA (zt_1 hs (by omega))) (fun c hc => ?_)
          by_cases q : c = x.toNatClampNeg
          · subst q; rw [hs.1]; exact hvv
          · rw [hs.2 _ (fun k hk => by simp only [List.mem_cons, List.not_mem_nil, or_false] at hk; omega)]
            exact hv c (by omega)
        have tA : ∀ k, k ≤ 4 → A (20 + 5 * (tmod m).toNatClampNeg + k) = ri 384 (20 + 5 * (tmod m).toNatClampNeg + k) := fun k hk => hA _ (Or.inl (by omega)) (fun c2 k2 h2 h3 => by omega)
        have tp : A (100 + 16 * x.toNatClampNeg + 1) + A (100 + 16 * x.toNatClampNeg + 4) + A (100 + 16 * x.toNatClampNeg + 5) / 4 + A (100 + 16 * x.toNatClampNeg + 6) = topA (ri 384) x.toNatClampNeg := topZ A hA _ (by omega)
        rw [g_X12_seaStands_L8_e]
        simp only [↓ap1_n, bnI_u, topOf_m h1 (show x.toInt ≤ 39 by omega), tableAt_m1 hm0 (show m.toInt ≤ 2147483647 by omega), va_up_self, tp, tA 1 (by decide)]
        rw [if_neg c]
        by_cases d : topA (ri 384) x.toNatClampNeg ≤ lv + ri 384 (20 + 5 * (tmod m).toNatClampNeg + 1)
        · have fin0 := fun (B : Nat → Int32) (a b : Int32) => fin 0 B a b (if_pos d).symm
          rw [if_pos d]
          simp only [g_X12_seaStands_K51, g_X12_seaStands_K75, g_X12_seaStands_K96, g_X12_seaStands_K116, g_X12_seaStands_K147, g_X12_seaStands_K167, g_X12_seaStands_K191, g_X12_seaStands_K207, g_X12_seaStands_K359, g_X12_seaStands_K360, g_X12_seaStands_K75_2, g_X12_seaStands_K96_2, g_X12_seaStands_K116_2, g_X12_seaStands_K147_2, g_X12_seaStands_K167_2, g_X12_seaStands_K191_2, g_X12_seaStands_K207_2, g_X12_seaStands_K359_2, g_X12_seaStands_K360_2, ↓ap1_n, bnI_u, i7, i8, i10, i11, i12, i13, va_up_self, up_up]
          repeat' split
          all_goals (refine fin0 _ _ _ ?_; repeat (first | exact sea1_0 | refine sea1_k ?_ (by decide)))
        · have fin1 : ∀ (B : Nat → Int32) (a b : Int32), sea1 x.toNatClampNeg 1 A B → SSC I J ri rj rq m lv (g_X12_seaStands_L8 m lv I J ri rj rq n a b (x + Int32.ofInt 1) (va_up ri 384 B)) := fun B a b => fin 1 B a b (if_neg d).symm
          have kA3 : ∀ (B : Nat → Int32) (a b : Int32), sea1 x.toNatClampNeg 1 A B → SSC I J ri rj rq m lv (g_X12_seaStands_K360_3 a b x (g_X12_seaStands_L8 m lv I J ri rj rq n) (va_up ri 384 B)) := fun B a b h => by
            rw [g_X12_seaStands_K360_3_e]
            simp only [↓ap1_n]
            exact fin1 B a b h
          have kB3 : ∀ (B : Nat → Int32) (a b : Int32), sea1 x.toNatClampNeg 1 A B → SSC I J ri rj rq m lv (g_X12_seaStands_K287 a b x (g_X12_seaStands_L8 m lv I J ri rj rq n) ((100 : Int32) + (16 : Int32) * x) (va_up ri 384 B)) := fun B a b h => by
            rw [g_X12_seaStands_K287_e]
            simp only [↓ap1_n, va_up_self, up_up, i10]
            split
            · exact kA3 _ _ _ h
            · exact kA3 _ _ _ (sea1_k h (by decide))
          have kC3 : ∀ (B : Nat → Int32) (a b : Int32), sea1 x.toNatClampNeg 1 A B → SSC I J ri rj rq m lv (g_X12_seaStands_K207_3 m I J rj rq a b x (g_X12_seaStands_L8 m lv I J ri rj rq n) ((100 : Int32) + (16 : Int32) * x) (va_up ri 384 B)) := fun B a b h => by
            rw [g_X12_seaStands_K207_3_e]
            simp only [↓ap1_n, bnI_u, tableAt_m4, va_up_self, up_up, i8, i9]
            split
            · exact kA3 _ _ _ h
            · split
              · exact kB3 _ _ _ (sea1_k h (by decide))
              · exact kB3 _ _ _ (sea1_k (sea1_k h (by decide)) (by decide))
          have kA4 : ∀ (B : Nat → Int32) (a b : Int32), sea1 x.toNatClampNeg 1 A B → SSC I J ri rj rq m lv (g_X12_seaStands_K360_4 x (g_X12_seaStands_L8 m lv I J ri rj rq n) a b (va_up ri 384 B)) := fun B a b h => by
            rw [g_X12_seaStands_K360_4_e]
            simp only [↓ap1_n]
            exact fin1 B a b h
          have kB4 : ∀ (B : Nat → Int32) (a b : Int32), sea1 x.toNatClampNeg 1 A B → SSC I J ri rj rq m lv (g_X12_seaStands_K287_2 x (g_X12_seaStands_L8 m lv I J ri rj rq n) ((100 : Int32) + (16 : Int32) * x) a b (va_up ri 384 B)) := fun B a b h => by
            rw [g_X12_seaStands_K287_2_e]
            simp only [↓ap1_n, va_up_self, up_up, i10]
            split
            · exact kA4 _ _ _ h
            · exact kA4 _ _ _ (sea1_k h (by decide))
          have kC4 : ∀ (B : Nat → Int32) (a b : Int32), sea1 x.toNatClampNeg 1 A B → SSC I J ri rj rq m lv (g_X12_seaStands_K207_4 m I J rj rq x (g_X12_seaStands_L8 m lv I J ri rj rq n) ((100 : Int32) + (16 : Int32) * x) (va_up ri 384 B) a b) := fun B a b h => by
            rw [g_X12_seaStands_K207_4_e]
            simp only [↓ap1_n, bnI_u, tableAt_m4, va_up_self, up_up, i8, i9]
            split
            · exact kA4 _ _ _ h
            · split
              · exact kB4 _ _ _ (sea1_k h (by decide))
              · exact kB4 _ _ _ (sea1_k (sea1_k h (by decide)) (by decide))
          have kF4 : ∀ (B : Nat → Int32) (a b : Int32), sea1 x.toNatClampNeg 1 A B → SSC I J ri rj rq m lv (g_X12_seaStands_K167_4 m I J rj rq b x (g_X12_seaStands_L8 m lv I J ri rj rq n) ((100 : Int32) + (16 : Int32) * x) (va_up ri 384 B) a) := fun B a b h => by
            rw [g_X12_seaStands_K167_4_e]
            simp only [↓ap1_n, g_X12_seaStands_K191_4]
            split
            · exact kC4 _ _ _ h
            · exact kC4 _ _ _ h
          have h3w : sea1 x.toNatClampNeg 1 A (upd (upd (upd A (100 + 16 * x.toNatClampNeg + 12) 1) (100 + 16 * x.toNatClampNeg + 13) 0) (100 + 16 * x.toNatClampNeg + 11) 0) := sea1_k (sea1_k sea1_0 (by decide)) (by decide)
          have h4w : sea1 x.toNatClampNeg 1 A (upd (upd (upd A (100 + 16 * x.toNatClampNeg + 12) 1) (100 + 16 * x.toNatClampNeg + 13) 1) (100 + 16 * x.toNatClampNeg + 11) 0) := sea1_k (sea1_k sea1_0 (by decide)) (by decide)
          rw [if_neg d, g_X12_seaStands_K51_2_e]
          simp only [↓ap1_n, bnI_u]
          split
          · simp only [g_X12_seaStands_K75_3, g_X12_seaStands_K96_3, g_X12_seaStands_K116_3, g_X12_seaStands_K147_3, g_X12_seaStands_K167_3, g_X12_seaStands_K191_3, ↓ap1_n, i11, i12, i13, va_up_self, up_up]
            exact kC3 _ _ _ h3w
          · simp only [g_X12_seaStands_K75_4, g_X12_seaStands_K96_4, g_X12_seaStands_K116_4, g_X12_seaStands_K147_4, ↓ap1_n, i11, i12, i13, va_up_self, up_up]
            split
            · exact kF4 _ _ _ h4w
            · exact kF4 _ _ _ h4w
  rw [g_X12_seaStands_e]
  have h := go ((40 - (0 : Int32).toInt).toNat + 1) 0 0 0 (ri 384) (by decide) h0 (Nat.lt_succ_self _) zt_rf (fun c hc => absurd hc (by rw [show (0 : Int32).toNatClampNeg = 0 from by decide]; exact Nat.not_lt_zero _))
  rw [up_id] at h
  exact h
end PU6
/-! ===== pure: what drinking, sleep and THE FUND leave of the reference's row ===== -/
section PU7
variable {I : Nat → Int32} {J : Nat → Int64} {ri : Nat → Nat → Int32} {rj : Nat → Nat → Int64} {rq : Nat → Nat → Option Nat}
theorem fg_pure {α : Type} {μ : vM} {b : α × vM} (h : FRG Prod.snd ([], [], [], [], []) μ b) : b = (b.1, μ) := by
  obtain ⟨v, I1, J1, r1, l1, q1⟩ := b
  obtain ⟨h1, h2, h3, h4, h5⟩ := h
  have e1 : I1 = μ.1 := funext fun f => h1 f (fun x => by have y : f ∈ ([] : List Nat) := x; cases y)
  have e2 : J1 = μ.2.1 := funext fun f => h2 f (fun x => by have y : f ∈ ([] : List Nat) := x; cases y)
  have e3 : r1 = μ.2.2.1 := funext fun f => h3 f (fun x => by have y : f ∈ ([] : List Nat) := x; cases y)
  have e4 : l1 = μ.2.2.2.1 := funext fun f => h4 f (fun x => by have y : f ∈ ([] : List Nat) := x; cases y)
  have e5 : q1 = μ.2.2.2.2 := funext fun f => h5 f (fun x => by have y : f ∈ ([] : List Nat) := x; cases y)
  rw [e1, e2, e3, e4, e5]
theorem bn_p {α β : Type} {p : α × vM} {I : Nat → Int32} {J : Nat → Int64} {ri : Nat → Nat → Int32} {rj : Nat → Nat → Int64} {rq : Nat → Nat → Option Nat} {k : α → (Nat → Int32) → (Nat → Int64) → (Nat → Nat → Int32) → (Nat → Nat → Int64) → (Nat → Nat → Option Nat) → β} (h : FRG Prod.snd ([], [], [], [], []) (I, J, ri, rj, rq) p) : bnI p k = k p.1 I J ri rj rq := by rw [fg_pure h]; rfl
/-- all but what drinking, sleep, THE FUND and BOATS write -/
def zm0 (f g : Nat → Int32) : Prop := ∀ i, (i ≠ 8 ∧ i ≠ 12 ∧ i ≠ 18) → (∀ c, c < 40 → i ≠ 100 + 16 * c + 9) → (∀ p k, p < 40 → k ∈ [3, 5, 6, 7] → i ≠ 740 + 12 * p + k) → g i = f i
/-- the dead are the dead -/
def zd (f g : Nat → Int32) : Prop := ∀ p, p < 40 → (g (740 + 12 * p + 3) = 300 ↔ f (740 + 12 * p + 3) = 300)
def zm (f g : Nat → Int32) : Prop := zm0 f g ∧ zd f g
def zk (f g : Nat → Int32) : Prop := zd f g ∧ g 5 = f 5
theorem zd_e {f : Nat → Int32} {i : Nat} {v : Int32} (h : ∀ p, p < 40 → 740 + 12 * p + 3 ≠ i) : zd f (upd f i v) := fun p hp => by
  have e := upd_n f v (h p hp)
  exact ⟨fun y => e.symm.trans y, fun y => e.trans y⟩
theorem zm_rf {f : Nat → Int32} : zm f f := ⟨fun _ _ _ _ => rfl, fun _ _ => Iff.rfl⟩
theorem zm_tr {f g h : Nat → Int32} (a : zm f g) (b : zm g h) : zm f h := ⟨fun i x y z => (b.1 i x y z).trans (a.1 i x y z), fun p hp => (b.2 p hp).trans (a.2 p hp)⟩
theorem zm_l {f : Nat → Int32} {c : Nat} {v : Int32} (hc : c < 40) : zm f (upd f (100 + 16 * c + 9) v) := ⟨fun i _ y _ => upd_n _ _ (y c hc), zd_e (fun p hp => by omega)⟩
theorem zm_p {f : Nat → Int32} {p k : Nat} {v : Int32} (hp : p < 40) (hk : k ∈ [5, 6, 7]) : zm f (upd f (740 + 12 * p + k) v) := ⟨fun i _ _ z => upd_n _ _ (z p k hp (List.mem_cons_of_mem _ hk)), zd_e (fun q hq => by
  simp only [List.mem_cons, List.not_mem_nil, or_false] at hk
  omega)⟩
theorem zm_p3 {f : Nat → Int32} {p : Nat} {v : Int32} (hp : p < 40) (h0 : f (740 + 12 * p + 3) ≠ 300) (hv : v ≠ 300) : zm f (upd f (740 + 12 * p + 3) v) := ⟨fun i _ _ z => upd_n _ _ (z p 3 hp (by decide)), fun q hq => by
  by_cases e : q = p
  · rw [e, upd_s]
    exact ⟨fun y => absurd y hv, fun y => absurd y h0⟩
  · have e2 := upd_n f v (show 740 + 12 * q + 3 ≠ 740 + 12 * p + 3 by omega)
    exact ⟨fun y => e2.symm.trans y, fun y => e2.trans y⟩⟩
theorem zm_f {f : Nat → Int32} {k : Nat} {v : Int32} (hk : k = 8 ∨ k = 12 ∨ k = 18) : zm f (upd f k v) := ⟨fun i x _ _ => upd_n _ _ (by omega), zd_e (fun p hp => by omega)⟩
theorem hundred {x : Int32} (h0 : -100 ≤ x.toInt) (h1 : x.toInt ≤ 100) : (100 : Int32) + x ≠ 300 := fun q => by
  have e : ((100 : Int32) + x).toInt = 100 + x.toInt := i_add (show (100 : Int32).toInt = 100 by decide) rfl (by omega) (by omega)
  rw [q, show (300 : Int32).toInt = 300 by decide] at e
  omega
theorem drink_to {p : Int32} {k : Int32 → (Nat → Nat → Int32) → vM} {r : Nat → Nat → Int32} (h40 : (ri 384 2).toInt ≤ 40) : ∀ (n : Nat) (x : Int32), 0 ≤ x.toInt → x.toInt ≤ (ri 384 2).toInt → (40 - x.toInt).toNat < n → ∃ y : Int32, 0 ≤ y.toInt ∧ g_X12_drink_L25 I J ri rj rq p r k n x = g_X12_drink_K55 p r k y (ri 384 2) := by
  intro n
  induction n with
  | zero => intro x _ _ h; exact absurd h (Nat.not_lt_zero _)
  | succ n ih =>
    intro x h1 h2 h3
    rw [g_X12_drink_L25_e]
    simp only [↓ap1_n]
    by_cases c : ri 384 2 ≤ x
    · rw [if_pos c]; exact ⟨x, h1, rfl⟩
    · have c1 := Int32.lt_iff_toInt_lt.mp (Int32.not_le.mp c)
      have e := t1_inc (x := x) (by omega) (by omega)
      rw [if_neg c, bn_p g_X12_personAt_c3_f, bn_p g_X12_isSweet_f]
      split
      · exact ih _ (by omega) (by omega) (by omega)
      · exact ⟨x, h1, rfl⟩
theorem drink_f (h2a : 0 ≤ (ri 384 2).toInt) (h2b : (ri 384 2).toInt ≤ 40) (h5b : (ri 384 5).toInt ≤ 40) : ∃ B : Nat → Int32, g_X12_drink I J ri rj rq = (I, J, va_up ri 384 B, rj, rq) ∧ zm (ri 384) B := by
  have go : ∀ (n : Nat) (x : Int32) (A : Nat → Int32), 0 ≤ x.toInt → (40 - x.toInt).toNat < n → zm (ri 384) A → ∃ B : Nat → Int32, g_X12_drink_L2 I J ri rj rq n x (va_up ri 384 A) = (I, J, va_up ri 384 B, rj, rq) ∧ zm (ri 384) B := by
    intro n
    induction n with
    | zero => intro x A _ h; exact absurd h (Nat.not_lt_zero _)
    | succ n ih =>
      intro x A h1 h3 hA
      have zx := clampE x
      rw [g_X12_drink_L2_e]
      simp only [↓ap1_n]
      by_cases c : ri 384 5 ≤ x
      · rw [if_pos c]; exact ⟨A, rfl, hA⟩
      · have c1 := Int32.lt_iff_toInt_lt.mp (Int32.not_le.mp c)
        have e := t1_inc (x := x) (by omega) (by omega)
        rw [if_neg c, bn_p g_X12_isOnRing_f]
        split
        · simp only [g_X12_drink_K107, ↓ap1_n]
          exact ih _ _ (by omega) (by omega) hA
        · obtain ⟨y, hy0, hy⟩ := drink_to (I := I) (J := J) (rj := rj) (rq := rq) (ri := ri) (p := x) (k := g_X12_drink_L2 I J ri rj rq n) (r := va_up ri 384 A) h2b ((40 - (0 : Int32).toInt).toNat + 1) 0 (by decide) h2a (Nat.lt_succ_self _)
          rw [hy]
          simp only [g_X12_drink_K55, g_X12_drink_K107, ↓ap1_n, va_up_self, up_up]
          by_cases d : ri 384 2 ≤ y
          · rw [if_pos d, ixp (c := x) (k := 5) 5 (by decide) (by decide) h1 (by omega)]
            exact ih _ _ (by omega) (by omega) (zm_tr hA (zm_p (by omega) (by decide)))
          · have d1 := Int32.lt_iff_toInt_lt.mp (Int32.not_le.mp d)
            have zy := clampE y
            rw [if_neg d, ixk (c := y) (k := 9) 9 (by decide) (by decide) hy0 (by omega)]
            exact ih _ _ (by omega) (by omega) (zm_tr hA (zm_l (by omega)))
  rw [g_X12_drink_e]
  have h := go ((40 - (0 : Int32).toInt).toNat + 1) 0 (ri 384) (by decide) (Nat.lt_succ_self _) zm_rf
  rw [up_id] at h
  exact h
theorem sleep_f (h1b : (ri 384 1).toInt ≤ 5) (h2b : (ri 384 2).toInt ≤ 40) (h5b : (ri 384 5).toInt ≤ 40) : ∃ B : Nat → Int32, g_X12_sleep I J ri rj rq = (I, J, va_up ri 384 B, rj, rq) ∧ zm (ri 384) B := by
  have go : ∀ (n : Nat) (x : Int32) (A : Nat → Int32), 0 ≤ x.toInt → (5 - x.toInt).toNat < n → zm (ri 384) A → ∃ B : Nat → Int32, g_X12_sleep_L2 I J ri rj rq n x (va_up ri 384 A) = (I, J, va_up ri 384 B, rj, rq) ∧ zm (ri 384) B := by
    intro n
    induction n with
    | zero => intro x A _ h; exact absurd h (Nat.not_lt_zero _)
    | succ n ih =>
      intro x A h1 h3 hA
      rw [g_X12_sleep_L2_e]
      simp only [↓ap1_n]
      by_cases c : ri 384 1 ≤ x
      · rw [if_pos c]; exact ⟨A, rfl, hA⟩
      · have c1 := Int32.lt_iff_toInt_lt.mp (Int32.not_le.mp c)
        have e := t1_inc (x := x) (by omega) (by omega)
        rw [if_neg c]
        -- the PERSONS of a RING
        have inner : ∀ (m : Nat) (b p : Int32) (A : Nat → Int32), 0 ≤ p.toInt → (40 - p.toInt).toNat < m → zm (ri 384) A → ∃ B : Nat → Int32, g_X12_sleep_L58 I J ri rj rq x (g_X12_sleep_L2 I J ri rj rq n) m b p (va_up ri 384 A) = (I, J, va_up ri 384 B, rj, rq) ∧ zm (ri 384) B := by
          intro m
          induction m with
          | zero => intro b p A _ h; exact absurd h (Nat.not_lt_zero _)
          | succ m im =>
            intro b p A p1 p3 hA
            have zp := clampE p
            rw [g_X12_sleep_L58_e]
            simp only [↓ap1_n]
            by_cases c2 : ri 384 5 ≤ p
            · rw [if_pos c2]
              exact ih _ _ (by omega) (by omega) hA
            · have c3 := Int32.lt_iff_toInt_lt.mp (Int32.not_le.mp c2)
              have e2 := t1_inc (x := p) (by omega) (by omega)
              rw [if_neg c2, bn_p g_X12_personAt_c3_f]
              simp only [g_X12_sleep_K111, ↓ap1_n, va_up_self, up_up]
              split
              · split
                · rw [ixp (c := p) (k := 6) 6 (by decide) (by decide) p1 (by omega)]
                  exact im _ _ _ (by omega) (by omega) (zm_tr hA (zm_p (by omega) (by decide)))
                · exact im _ _ _ (by omega) (by omega) hA
              · exact im _ _ _ (by omega) (by omega) hA
        have beds : ∀ (m : Nat) (b y : Int32), 0 ≤ y.toInt → (40 - y.toInt).toNat < m → ∃ B : Nat → Int32, g_X12_sleep_L16 I J ri rj rq x (va_up ri 384 A) (g_X12_sleep_L2 I J ri rj rq n) m b y = (I, J, va_up ri 384 B, rj, rq) ∧ zm (ri 384) B := by
          intro m
          induction m with
          | zero => intro b y _ h; exact absurd h (Nat.not_lt_zero _)
          | succ m im =>
            intro b y y1 y3
            rw [g_X12_sleep_L16_e]
            simp only [↓ap1_n]
            by_cases c2 : ri 384 2 ≤ y
            · rw [if_pos c2]
              exact inner _ _ _ _ (by decide) (Nat.lt_succ_self _) hA
            · have c3 := Int32.lt_iff_toInt_lt.mp (Int32.not_le.mp c2)
              have e2 := t1_inc (x := y) (by omega) (by omega)
              rw [if_neg c2, bn_p g_X12_cellAt_c0_f]
              simp only [g_X12_sleep_K48, ↓ap1_n]
              split
              · rw [bn_p g_X12_cellAt_c7_f]
                exact im _ _ (by omega) (by omega)
              · exact im _ _ (by omega) (by omega)
        exact beds _ _ _ (by decide) (Nat.lt_succ_self _)
  rw [g_X12_sleep_e]
  have h := go ((5 - (0 : Int32).toInt).toNat + 1) 0 (ri 384) (by decide) (Nat.lt_succ_self _) zm_rf
  rw [up_id] at h
  exact h
theorem fundGoes_f {m : Int32} (h2b : (ri 384 2).toInt ≤ 40) (h5b : (ri 384 5).toInt ≤ 40) : ∃ (I1 : Nat → Int32) (B : Nat → Int32), g_X12_fundGoes m I J ri rj rq = (I1, J, va_up ri 384 B, rj, rq) ∧ zm (ri 384) B ∧ ∀ f, f ≠ 410 → I1 f = I f := by
  have k8 : (8 : Int32).toNatClampNeg = 8 := by decide
  have k12 : (12 : Int32).toNatClampNeg = 12 := by decide
  have k18 : (18 : Int32).toNatClampNeg = 18 := by decide
  have go2 : ∀ (n : Nat) (x : Int32) (A : Nat → Int32) (I0 : Nat → Int32), 0 ≤ x.toInt → (40 - x.toInt).toNat < n → zm (ri 384) A → (∀ f, f ≠ 410 → I0 f = I f) → ∃ (I1 : Nat → Int32) (B : Nat → Int32), g_X12_fundGoes_L104 m J ri rj rq I0 n x (va_up ri 384 A) = (I1, J, va_up ri 384 B, rj, rq) ∧ zm (ri 384) B ∧ ∀ f, f ≠ 410 → I1 f = I f := by
    intro n
    induction n with
    | zero => intro x A I0 _ h; exact absurd h (Nat.not_lt_zero _)
    | succ n ih =>
      intro x A I0 h1 h3 hA hI
      rw [g_X12_fundGoes_L104_e]
      simp only [↓ap1_n, va_up_self, up_up, k8, k12]
      by_cases c : ri 384 2 ≤ x
      · rw [if_pos c]
        split
        · split
          · exact ⟨_, A, rfl, hA, fun f hf => (va_up_ne _ _ hf).trans (hI f hf)⟩
          · exact ⟨_, _, rfl, zm_tr hA (zm_f (Or.inr (Or.inl rfl))), fun f hf => (va_up_ne _ _ hf).trans (hI f hf)⟩
        · exact ⟨_, A, rfl, hA, hI⟩
      · have c1 := Int32.lt_iff_toInt_lt.mp (Int32.not_le.mp c)
        have e := t1_inc (x := x) (by omega) (by omega)
        rw [if_neg c, bn_p g_X12_cellAt_c6_f]
        simp only [g_X12_fundGoes_K141, ↓ap1_n]
        split
        · exact ih _ _ _ (by omega) (by omega) hA hI
        · exact ih _ _ _ (by omega) (by omega) (zm_tr hA (zm_f (Or.inl rfl))) hI
  have go : ∀ (n : Nat) (x : Int32) (A : Nat → Int32), 0 ≤ x.toInt → (40 - x.toInt).toNat < n → zm (ri 384) A → ∃ (I1 : Nat → Int32) (B : Nat → Int32), g_X12_fundGoes_L2 m I J ri rj rq n x (va_up ri 384 A) = (I1, J, va_up ri 384 B, rj, rq) ∧ zm (ri 384) B ∧ ∀ f, f ≠ 410 → I1 f = I f := by
    intro n
    induction n with
    | zero => intro x A _ h; exact absurd h (Nat.not_lt_zero _)
    | succ n ih =>
      intro x A h1 h3 hA
      rw [g_X12_fundGoes_L2_e]
      simp only [↓ap1_n]
      by_cases c : ri 384 5 ≤ x
      · rw [if_pos c]
        split
        · exact ⟨_, A, rfl, hA, fun f hf => va_up_ne _ _ hf⟩
        · rw [bn_p g_X12_areaOf_f, bn_p g_X12_numberOf_f]
          simp only [va_up_self, up_up, k8, k18]
          exact go2 _ _ _ _ (by decide) (Nat.lt_succ_self _) (zm_tr hA (zm_tr (zm_f (Or.inr (Or.inr rfl))) (zm_f (Or.inl rfl)))) (fun f hf => va_up_ne _ _ hf)
      · have c1 := Int32.lt_iff_toInt_lt.mp (Int32.not_le.mp c)
        have e := t1_inc (x := x) (by omega) (by omega)
        rw [if_neg c, bn_p g_X12_personAt_c3_f]
        simp only [g_X12_fundGoes_K40, ↓ap1_n]
        split
        · rw [bn_p g_X12_personAt_c4_f]
          simp only [va_up_self, up_up, k8]
          exact ih _ _ (by omega) (by omega) (zm_tr hA (zm_f (Or.inl rfl)))
        · exact ih _ _ (by omega) (by omega) hA
  rw [g_X12_fundGoes_e]
  have h := go ((40 - (0 : Int32).toInt).toNat + 1) 0 (ri 384) (by decide) (Nat.lt_succ_self _) zm_rf
  rw [up_id] at h
  exact h
end PU7
/-! ===== pure: what BOATS leave of the reference's row ===== -/
section PU8
variable {I : Nat → Int32} {J : Nat → Int64} {ri : Nat → Nat → Int32} {rj : Nat → Nat → Int64} {rq : Nat → Nat → Option Nat}
/-- the rows of BOATS alone change, and the area where it may -/
def bz (r r1 : Nat → Nat → Int32) : Prop := (∀ t, t ≠ 384 → t ≠ 412 → r1 t = r t) ∧ zm (r 384) (r1 384)
theorem bz_rf {r : Nat → Nat → Int32} : bz r r := ⟨fun _ _ _ => rfl, zm_rf⟩
theorem bz_tr {r r1 r2 : Nat → Nat → Int32} (a : bz r r1) (b : bz r1 r2) : bz r r2 := ⟨fun t h1 h2 => (b.1 t h1 h2).trans (a.1 t h1 h2), zm_tr a.2 b.2⟩
theorem bz_l {r : Nat → Nat → Int32} {g : Nat → Int32} : bz r (va_up r 412 g) := ⟨fun _ _ h => va_up_ne _ _ h, by rw [va_up_ne _ _ (show (384 : Nat) ≠ 412 by decide)]; exact zm_rf⟩
theorem personAt3 {x : Int32} (h0 : 0 ≤ x.toInt) (h1 : x.toInt ≤ 39) : (g_X12_personAt_c3 x I J ri rj rq).1 = ri 384 (740 + 12 * x.toNatClampNeg + 3) := by
  have e : (g_X12_personAt_c3 x I J ri rj rq).1 = ri 384 ((740 : Int32) + (12 : Int32) * x + 3).toNatClampNeg := rfl
  rw [e, ixp (c := x) (k := 3) 3 (by decide) (by decide) h0 h1]
theorem isOfKin_d {x p g : Int32} (h0 : 0 ≤ x.toInt) (h1 : x.toInt ≤ 39) (h : (g_X12_isOfKin x p g I J ri rj rq).1 ≠ 0) : x = p ∨ ri 384 (740 + 12 * x.toNatClampNeg + 3) = g := by
  by_cases c : x = p
  · exact Or.inl c
  · refine Or.inr (Classical.byContradiction fun hn => h ?_)
    rw [g_X12_isOfKin_e]
    simp only [↓ap1_n, g_X12_isOfKin_K39, g_X12_isOfKin_K43, if_neg c]
    split
    · rw [bn_p g_X12_personAt_c0_f, bn_p g_X12_personAt_c0_f]
      split
      · rw [bn_p g_X12_personAt_c3_f, personAt3 h0 h1]
        simp only [if_neg hn]
      · rfl
    · rfl
theorem isOnRing_m {x : Int32} (h0 : 0 ≤ x.toInt) (h1 : x.toInt ≤ 39) (h : (g_X12_isOnRing x I J ri rj rq).1 ≠ 0) : ri 384 (740 + 12 * x.toNatClampNeg + 3) ≠ 300 := fun q => by
  refine h ?_
  rw [g_X12_isOnRing_e, bn_p g_X12_personAt_c3_f, personAt3 h0 h1, q]
  simp only [if_pos (show (100 : Int32) ≤ 300 by decide)]
theorem sails_f {p lot m : Int32} (h0 : 0 ≤ p.toInt) (h1 : p.toInt ≤ 39) (hd : ri 384 (740 + 12 * p.toNatClampNeg + 3) ≠ 300) (hl : 0 ≤ lot.toInt ∧ lot.toInt ≤ 100) : ∃ r1 : Nat → Nat → Int32, g_X12_sails p lot m I J ri rj rq = (I, J, r1, rj, rq) ∧ bz ri r1 := by
  have zp := clampE p
  rw [g_X12_sails_e]
  simp only [↓ap1_n, va_up_self, up_up, ixp (c := p) (k := 3) 3 (by decide) (by decide) h0 h1, ixp (c := p) (k := 7) 7 (by decide) (by decide) h0 h1]
  exact ⟨_, rfl, fun _ h _ => va_up_ne _ _ h, by rw [va_up_self]; exact zm_tr (zm_p3 (by omega) hd (hundred (by omega) hl.2)) (zm_p (by omega) (by decide))⟩
theorem family_f {p m left : Int32} (h0 : 0 ≤ p.toInt) (h1 : p.toInt ≤ 39) (h5 : (ri 384 5).toInt ≤ 40) (h4 : (ri 384 4).toInt ≤ 5) (hd : ri 384 (740 + 12 * p.toNatClampNeg + 3) ≠ 300) : ∃ (v : Int32) (r1 : Nat → Nat → Int32), g_X12_family p m left I J ri rj rq = (v, I, J, r1, rj, rq) ∧ bz ri r1 := by
  have zp := clampE p
  -- those who go
  have go1 : ∀ (n : Nat) (rg nn lot x : Int32) (r : Nat → Nat → Int32), rg ≠ 300 → 0 ≤ lot.toInt ∧ lot.toInt ≤ 100 → 0 ≤ x.toInt → (40 - x.toInt).toNat < n → bz ri r → ∃ (v : Int32) (r1 : Nat → Nat → Int32), g_X12_family_L111 p m I J rj rq rg nn (ri 384 5) lot n x r = (v, I, J, r1, rj, rq) ∧ bz ri r1 := by
    intro n
    induction n with
    | zero => intro rg nn lot x r _ _ _ h; exact absurd h (Nat.not_lt_zero _)
    | succ n ih =>
      intro rg nn lot x r hrg hlo x0 x3 hr
      have zx := clampE x
      rw [g_X12_family_L111_e]
      simp only [↓ap1_n]
      by_cases c : ri 384 5 ≤ x
      · rw [if_pos c]
        obtain ⟨r1, e1, b1⟩ := sails_f (I := I) (J := J) (ri := r) (rj := rj) (rq := rq) (lot := lot) (m := m) h0 h1 (fun q => hd ((hr.2.2 _ (by omega)).mp q)) hlo
        rw [e1]
        exact ⟨nn, r1, rfl, bz_tr hr b1⟩
      · have c1 := Int32.lt_iff_toInt_lt.mp (Int32.not_le.mp c)
        have e := t1_inc (x := x) (by omega) (by omega)
        rw [if_neg c, bn_p g_X12_isOfKin_f]
        simp only [g_X12_family_K168, ↓ap1_n]
        by_cases k : (g_X12_isOfKin x p rg I J r rj rq).1 = 0
        · rw [if_pos k]
          exact ih _ _ _ _ _ hrg hlo (by omega) (by omega) hr
        · rw [if_neg k]
          by_cases s : x = p
          · rw [if_pos s]
            exact ih _ _ _ _ _ hrg hlo (by omega) (by omega) (bz_tr hr bz_l)
          · rw [if_neg s]
            have hx : va_up r 412 (upd (r 412) x.toNatClampNeg 1) 384 (740 + 12 * x.toNatClampNeg + 3) ≠ 300 := by
              rw [va_up_ne _ _ (show (384 : Nat) ≠ 412 by decide), (isOfKin_d x0 (by omega) k).resolve_left s]
              exact hrg
            obtain ⟨r1, e1, b1⟩ := sails_f (I := I) (J := J) (ri := va_up r 412 (upd (r 412) x.toNatClampNeg 1)) (rj := rj) (rq := rq) (p := x) (lot := lot) (m := m) x0 (by omega) hx hlo
            rw [e1]
            exact ih _ _ _ _ _ hrg hlo (by omega) (by omega) (bz_tr hr (bz_tr bz_l b1))
  -- those who stay
  have go2 : ∀ (n : Nat) (rg x : Int32) (r : Nat → Nat → Int32), 0 ≤ x.toInt → (40 - x.toInt).toNat < n → bz ri r → ∃ (v : Int32) (r1 : Nat → Nat → Int32), g_X12_family_L111_2 p I J rj rq rg (ri 384 5) n x r = (v, I, J, r1, rj, rq) ∧ bz ri r1 := by
    intro n
    induction n with
    | zero => intro rg x r _ h; exact absurd h (Nat.not_lt_zero _)
    | succ n ih =>
      intro rg x r x0 x3 hr
      rw [g_X12_family_L111_2_e]
      simp only [↓ap1_n, g_X12_family_K187_2]
      by_cases c : ri 384 5 ≤ x
      · rw [if_pos c]
        exact ⟨0, r, rfl, hr⟩
      · have c1 := Int32.lt_iff_toInt_lt.mp (Int32.not_le.mp c)
        have e := t1_inc (x := x) (by omega) (by omega)
        rw [if_neg c, bn_p g_X12_isOfKin_f]
        simp only [g_X12_family_K168_2, ↓ap1_n]
        split
        · exact ih _ _ _ (by omega) (by omega) hr
        · split
          · exact ih _ _ _ (by omega) (by omega) (bz_tr hr bz_l)
          · exact ih _ _ _ (by omega) (by omega) (bz_tr hr bz_l)
  have fin : ∀ (rg nn lot y2 : Int32), rg ≠ 300 → 0 ≤ lot.toInt → y2.toInt ≤ 5 → ∃ (v : Int32) (r1 : Nat → Nat → Int32), g_X12_family_K84 p m left I J ri rj rq rg nn (ri 384 5) lot y2 = (v, I, J, r1, rj, rq) ∧ bz ri r1 := by
    intro rg nn lot y2 hrg hl0 hy
    simp only [g_X12_family_K84, g_X12_family_K105, g_X12_family_K106, g_X12_family_K106_2]
    by_cases c1 : left < nn
    · rw [if_pos c1]
      exact go2 _ _ _ _ (by decide) (Nat.lt_succ_self _) bz_rf
    · rw [if_neg c1]
      by_cases c2 : y2 ≤ lot
      · rw [if_pos c2]
        exact go2 _ _ _ _ (by decide) (Nat.lt_succ_self _) bz_rf
      · have c3 := Int32.lt_iff_toInt_lt.mp (Int32.not_le.mp c2)
        rw [if_neg c2]
        exact go1 _ _ _ _ _ _ hrg ⟨hl0, by omega⟩ (by decide) (Nat.lt_succ_self _) bz_rf
  -- the LOT
  have go3 : ∀ (n : Nat) (rg nn x : Int32), rg ≠ 300 → 0 ≤ x.toInt → ∃ (v : Int32) (r1 : Nat → Nat → Int32), g_X12_family_L56 p m left I J ri rj rq rg nn (ri 384 5) n x = (v, I, J, r1, rj, rq) ∧ bz ri r1 := by
    intro n
    induction n with
    | zero => intro rg nn x _ _; exact ⟨0, ri, rfl, bz_rf⟩
    | succ n ih =>
      intro rg nn x hrg x0
      rw [g_X12_family_L56_e]
      simp only [↓ap1_n]
      by_cases c : ri 384 4 ≤ x
      · rw [if_pos c]
        exact fin _ _ _ _ hrg x0 h4
      · have c1 := Int32.lt_iff_toInt_lt.mp (Int32.not_le.mp c)
        have e := t1_inc (x := x) (by omega) (by omega)
        rw [if_neg c, bn_p g_X12_freeIn_f]
        split
        · exact fin _ _ _ _ hrg x0 h4
        · exact ih _ _ _ hrg (by omega)
  have go4 : ∀ (n : Nat) (rg nn x : Int32), rg ≠ 300 → ∃ (v : Int32) (r1 : Nat → Nat → Int32), g_X12_family_L14 p m left I J ri rj rq rg n nn x = (v, I, J, r1, rj, rq) ∧ bz ri r1 := by
    intro n
    induction n with
    | zero => intro rg nn x _; exact ⟨0, ri, rfl, bz_rf⟩
    | succ n ih =>
      intro rg nn x hrg
      rw [g_X12_family_L14_e]
      simp only [↓ap1_n]
      split
      · exact go3 _ _ _ _ hrg (by decide)
      · rw [bn_p g_X12_isOfKin_f]
        simp only [g_X12_family_K44, g_X12_family_K44_2, ↓ap1_n]
        split
        · exact ih _ _ _ hrg
        · exact ih _ _ _ hrg
  rw [g_X12_family_e, bn_p g_X12_personAt_c3_f]
  exact go4 _ _ _ _ (by rw [personAt3 h0 h1]; exact hd)
/-- the row of those who may -/
def rowP (A : Nat → Int32) (r : Nat → Nat → Int32) (n : Int) : Prop := ∀ k : Nat, (k : Int) < n → 0 ≤ (r 411 k).toInt ∧ (r 411 k).toInt ≤ 39 ∧ A (740 + 12 * (r 411 k).toNatClampNeg + 3) ≠ 300
theorem boatsGo_f {m : Int32} (h5 : (ri 384 5).toInt ≤ 40) (h4 : (ri 384 4).toInt ≤ 5) : ∃ (I1 : Nat → Int32) (r1 : Nat → Nat → Int32) (l1 : Nat → Nat → Int64), g_X12_boatsGo m I J ri rj rq = (I1, J, r1, l1, rq) ∧ (∀ f, f ≠ 406 → I1 f = I f) ∧ (∀ t, t ∉ [384, 405, 411, 412] → r1 t = ri t) ∧ zm (ri 384) (r1 384) := by
  -- all but the rows of BOATS
  have last : ∀ (I1 : Nat → Int32) (l1 : Nat → Nat → Int64) (N : Int32) (n : Nat) (left x : Int32) (r : Nat → Nat → Int32), 0 ≤ x.toInt → rowP (ri 384) r N.toInt → (r 384 5 = ri 384 5) → (∀ t, t ∉ [384, 405, 411, 412] → r t = ri t) → zm (ri 384) (r 384) → ∃ r1 : Nat → Nat → Int32, g_X12_boatsGo_L142 m J rq I1 N l1 n left x r = (I1, J, r1, l1, rq) ∧ (∀ t, t ∉ [384, 405, 411, 412] → r1 t = ri t) ∧ zm (ri 384) (r1 384) := by
    intro I1 l1 N n
    induction n with
    | zero => intro left x r _ _ _ h1 h2; exact ⟨r, rfl, h1, h2⟩
    | succ n ih =>
      intro left x r x0 hp h55 h1 h2
      have zx := clampE x
      rw [g_X12_boatsGo_L142_e]
      simp only [↓ap1_n]
      by_cases c : N ≤ x
      · rw [if_pos c]; exact ⟨r, rfl, h1, h2⟩
      · have c1 := Int32.lt_iff_toInt_lt.mp (Int32.not_le.mp c)
        have e := t1_inc (x := x) (by omega) (by have := N.toInt_lt; omega)
        rw [if_neg c]
        simp only [g_X12_boatsGo_K182, ↓ap1_n]
        split
        · have hq := hp x.toNatClampNeg (by omega)
          have zq : (r 411 x.toNatClampNeg).toNatClampNeg < 40 := by
            have z := clampE (r 411 x.toNatClampNeg)
            omega
          obtain ⟨v, r1, e1, b1⟩ := family_f (I := I1) (J := J) (ri := r) (rj := l1) (rq := rq) (p := r 411 x.toNatClampNeg) (m := m) (left := left) hq.1 hq.2.1 (by rw [h55]; exact h5) (by rw [h2.1 4 (by decide) (fun c _ => by omega) (fun p k _ _ => by omega)]; exact h4) (fun y => hq.2.2 ((h2.2 _ zq).mp y))
          rw [bn_n e1]
          have r411 : r1 411 = r 411 := b1.1 411 (by decide) (by decide)
          refine ih _ _ _ (by omega) (fun k hk => by rw [r411]; exact hp k hk) ?_ (fun t ht => ?_) (zm_tr h2 b1.2)
          · rw [b1.2.1 5 (by decide) (fun c _ => by omega) (fun p k _ _ => by omega)]; exact h55
          · rw [b1.1 t (fun q => ht (by rw [q]; decide)) (fun q => ht (by rw [q]; decide))]; exact h1 t ht
        · exact ih _ _ _ (by omega) hp h55 h1 h2
  have main : ∀ (I1 : Nat → Int32) (hk : Int32) (n : Nat) (N p : Int32) (r : Nat → Nat → Int32) (l : Nat → Nat → Int64), 0 ≤ p.toInt → 0 ≤ N.toInt → N.toInt ≤ p.toInt → (40 - p.toInt).toNat < n → rowP (ri 384) r N.toInt → r 384 = ri 384 → (∀ t, t ∉ [384, 405, 411, 412] → r t = ri t) → ∃ (r1 : Nat → Nat → Int32) (l1 : Nat → Nat → Int64), g_X12_boatsGo_L12 m J ri rq I1 hk n N p r l = (I1, J, r1, l1, rq) ∧ (∀ t, t ∉ [384, 405, 411, 412] → r1 t = ri t) ∧ zm (ri 384) (r1 384) := by
    intro I1 hk n
    induction n with
    | zero => intro N p r l _ _ _ h; exact absurd h (Nat.not_lt_zero _)
    | succ n ih =>
      intro N p r l p0 n0 np p3 hp h384 h1
      rw [g_X12_boatsGo_L12_e]
      simp only [↓ap1_n]
      by_cases c : ri 384 5 ≤ p
      · rw [if_pos c]
        obtain ⟨r1, e1, e2, e3⟩ := last I1 l N ((40 - (0 : Int32).toInt).toNat + 1) (r 384 (11 : Int32).toNatClampNeg) 0 r (by decide) hp (by rw [h384]) h1 (by rw [h384]; exact zm_rf)
        exact ⟨r1, l, e1, e2, e3⟩
      · have c1 := Int32.lt_iff_toInt_lt.mp (Int32.not_le.mp c)
        have e := t1_inc (x := p) (by omega) (by omega)
        have eN := t1_inc (x := N) (by omega) (by omega)
        have no412 : ∀ (r : Nat → Nat → Int32) (g : Nat → Int32), (∀ t, t ∉ [384, 405, 411, 412] → r t = ri t) → ∀ t, t ∉ [384, 405, 411, 412] → va_up r 412 g t = ri t := fun r g hr t ht => by
          rw [va_up_ne _ _ (fun q => ht (by rw [q]; decide))]; exact hr t ht
        rw [if_neg c, bn_p g_X12_isOnRing_f]
        by_cases kr : (g_X12_isOnRing p I1 J (va_up r 412 (upd (r 412) p.toNatClampNeg 1)) l rq).1 = 0
        · rw [if_pos kr]
          exact ih _ _ _ _ (by omega) n0 (by omega) (by omega) (fun k hk => by rw [va_up_ne _ _ (show (411 : Nat) ≠ 412 by decide)]; exact hp k hk) (by rw [va_up_ne _ _ (show (384 : Nat) ≠ 412 by decide)]; exact h384) (no412 _ _ h1)
        · -- whether it may
          have hpd : ri 384 (740 + 12 * p.toNatClampNeg + 3) ≠ 300 := by
            have q := isOnRing_m p0 (by omega) kr
            rw [va_up_ne _ _ (show (384 : Nat) ≠ 412 by decide), h384] at q
            exact q
          rw [if_neg kr]
          have fr : FRG Prod.snd w_X12_isFor (I1, J, va_up r 412 (upd (r 412) p.toNatClampNeg 1), l, rq) (g_X12_isFor 3 p m I1 J (va_up r 412 (upd (r 412) p.toNatClampNeg 1)) l rq) := g_X12_isFor_f
          generalize g_X12_isFor 3 p m I1 J (va_up r 412 (upd (r 412) p.toNatClampNeg 1)) l rq = q at fr ⊢
          obtain ⟨v, I2, J2, r2, l2, q2⟩ := q
          obtain ⟨f1, f2, f3, f4, f5⟩ := fr
          have e1 : I2 = I1 := funext fun f => f1 f (fun x => by have y : f ∈ ([] : List Nat) := x; cases y)
          have e2 : J2 = J := funext fun f => f2 f (fun x => by have y : f ∈ ([] : List Nat) := x; cases y)
          have e5 : q2 = rq := funext fun f => f5 f (fun x => by have y : f ∈ ([] : List Nat) := x; cases y)
          have e3 : ∀ t, t ≠ 405 → r2 t = va_up r 412 (upd (r 412) p.toNatClampNeg 1) t := fun t ht => f3 t (fun x => ht (List.mem_singleton.mp x))
          subst e1 e2 e5
          simp only [bnI_u]
          have r2p : rowP (ri 384) r2 N.toInt := fun k hk => by rw [e3 411 (by decide), va_up_ne _ _ (show (411 : Nat) ≠ 412 by decide)]; exact hp k hk
          have r2a : r2 384 = ri 384 := by rw [e3 384 (by decide), va_up_ne _ _ (show (384 : Nat) ≠ 412 by decide)]; exact h384
          have r2o : ∀ t, t ∉ [384, 405, 411, 412] → r2 t = ri t := fun t ht => by
            rw [e3 t (fun q => ht (by rw [q]; decide))]; exact no412 _ _ h1 t ht
          split
          · exact ih _ _ _ _ (by omega) n0 (by omega) (by omega) r2p r2a r2o
          · -- its place among them
            have ins : ∀ (w : Nat) (x : Int32) (s : Nat → Nat → Int32), 0 ≤ x.toInt → x.toInt ≤ N.toInt → x.toInt.toNat < w → ((x = N ∧ rowP (ri 384) s N.toInt) ∨ rowP (ri 384) s (N.toInt + 1)) → s 384 = ri 384 → (∀ t, t ∉ [384, 405, 411, 412] → s t = ri t) → ∃ (r1 : Nat → Nat → Int32) (l1 : Nat → Nat → Int64), g_X12_boatsGo_L65 m J2 q2 I2 hk N p (g_X12_boatsGo_L12 m J2 ri q2 I2 hk n) l2 w x s = (I2, J2, r1, l1, q2) ∧ (∀ t, t ∉ [384, 405, 411, 412] → r1 t = ri t) ∧ zm (ri 384) (r1 384) := by
              intro w
              induction w with
              | zero => intro x s _ _ h; exact absurd h (Nat.not_lt_zero _)
              | succ w iw =>
                intro x s x0 x1 x2 hs sa so
                have zx := clampE x
                have k0 : (0 : Int32).toInt = 0 := by decide
                have no411 : ∀ (g : Nat → Int32) (t : Nat), t ∉ [384, 405, 411, 412] → va_up s 411 g t = ri t := fun g t ht => by
                  rw [va_up_ne _ _ (fun q => ht (by rw [q]; decide))]; exact so t ht
                have sa4 : ∀ g : Nat → Int32, va_up s 411 g 384 = ri 384 := fun g => by rw [va_up_ne _ _ (show (384 : Nat) ≠ 411 by decide)]; exact sa
                have wr : ∀ v : Int32, 0 ≤ v.toInt → v.toInt ≤ 39 → ri 384 (740 + 12 * v.toNatClampNeg + 3) ≠ 300 → rowP (ri 384) (va_up s 411 (upd (s 411) x.toNatClampNeg v)) (N.toInt + 1) := fun v v0 v1 v2 k hk => by
                  rw [va_up_self]
                  by_cases y : k = x.toNatClampNeg
                  · rw [y, upd_s]; exact ⟨v0, v1, v2⟩
                  · rw [upd_n _ _ y]
                    rcases hs with ⟨a, b⟩ | b
                    · have : x.toInt = N.toInt := by rw [a]
                      exact b k (by omega)
                    · exact b k hk
                have put : ∃ (r1 : Nat → Nat → Int32) (l1 : Nat → Nat → Int64), g_X12_boatsGo_K112 N p (g_X12_boatsGo_L12 m J2 ri q2 I2 hk n) l2 x s = (I2, J2, r1, l1, q2) ∧ (∀ t, t ∉ [384, 405, 411, 412] → r1 t = ri t) ∧ zm (ri 384) (r1 384) := by
                  simp only [g_X12_boatsGo_K112, ↓ap1_n]
                  exact ih _ _ _ _ (by omega) (by omega) (by omega) (by omega) (by rw [eN]; exact wr p p0 (by omega) hpd) (sa4 _) (no411 _)
                rw [g_X12_boatsGo_L65_e]
                simp only [↓ap1_n]
                by_cases d : x ≤ 0
                · rw [if_pos d]; exact put
                · have d1 := Int32.lt_iff_toInt_lt.mp (Int32.not_le.mp d)
                  have em : (x - 1).toInt = x.toInt - 1 := i_sub rfl (show (1 : Int32).toInt = 1 by decide) (by omega) (by omega)
                  generalize x - 1 = xm at em ⊢
                  have ei : (x + Int32.ofInt (-1)).toInt = x.toInt - 1 := i_add (x := x) (y := Int32.ofInt (-1)) rfl (show (Int32.ofInt (-1)).toInt = -1 by decide) (by omega) (by omega)
                  generalize x + Int32.ofInt (-1) = xi at ei ⊢
                  have zm1 := clampE xm
                  rw [if_neg d, bn_p g_X12_goesAhead_f]
                  split
                  · exact put
                  · have hv : 0 ≤ (s 411 xm.toNatClampNeg).toInt ∧ (s 411 xm.toNatClampNeg).toInt ≤ 39 ∧ ri 384 (740 + 12 * (s 411 xm.toNatClampNeg).toNatClampNeg + 3) ≠ 300 := by
                      rcases hs with ⟨a, b⟩ | b
                      · exact b _ (by have : x.toInt = N.toInt := by rw [a]
                                      omega)
                      · exact b _ (by omega)
                    exact iw _ _ (by omega) (by omega) (by omega) (Or.inr (wr _ hv.1 hv.2.1 hv.2.2)) (sa4 _) (no411 _)
            exact ins _ _ _ n0 (Int.le_refl _) (Nat.lt_succ_self _) (Or.inl ⟨rfl, fun k hk => by rw [va_up_ne _ _ (show (411 : Nat) ≠ 412 by decide)]; exact r2p k hk⟩) (by rw [va_up_ne _ _ (show (384 : Nat) ≠ 412 by decide)]; exact r2a) (no412 _ _ r2o)
  have fr : FRG Prod.snd w_X12_keysFor (I, J, ri, rj, rq) (g_X12_keysFor 5 m I J ri rj rq) := g_X12_keysFor_f
  rw [g_X12_boatsGo_e]
  generalize g_X12_keysFor 5 m I J ri rj rq = q at fr ⊢
  obtain ⟨v, I2, J2, r2, l2, q2⟩ := q
  obtain ⟨f1, f2, f3, f4, f5⟩ := fr
  have e2 : J2 = J := funext fun f => f2 f (fun x => by have y : f ∈ ([] : List Nat) := x; cases y)
  have e3 : r2 = ri := funext fun f => f3 f (fun x => by have y : f ∈ ([] : List Nat) := x; cases y)
  have e4 : l2 = rj := funext fun f => f4 f (fun x => by have y : f ∈ ([] : List Nat) := x; cases y)
  have e5 : q2 = rq := funext fun f => f5 f (fun x => by have y : f ∈ ([] : List Nat) := x; cases y)
  simp only [bnI_u]
  obtain ⟨r1, l1, h1, h2, h3⟩ := main I2 v ((40 - (0 : Int32).toInt).toNat + 1) 0 0 ri rj (by decide) (by decide) (by decide) (Nat.lt_succ_self _) (fun k hk => absurd hk (show ¬ (k : Int) < (0 : Int32).toInt by rw [show (0 : Int32).toInt = 0 from by decide]; omega)) rfl (fun _ _ => rfl)
  exact ⟨I2, r1, l1, h1, fun f hf => f1 f (fun x => hf (List.mem_singleton.mp x)), h2, h3⟩
end PU8
/-! ===== pure: a month of both sides ===== -/
section PU9
variable {I : Nat → Int32} {J : Nat → Int64} {ri : Nat → Nat → Int32} {rj : Nat → Nat → Int64} {rq : Nat → Nat → Option Nat}
/-- what the class's country is, where nobody has a part in it -/
def rfN (I : Nat → Int32) (ri : Nat → Nat → Int32) : Int32 := if I 234 < ri 231 (tmod (I 320)).toNatClampNeg then -(I 236) else I 235
def lvN (a0 : Int32) (I : Nat → Int32) (ri : Nat → Nat → Int32) : Int32 := kfin (ri 225) (ri 226) (ri 227) (ri 228) a0 (I 320) (I 320) (I 224).toNatClampNeg
def sdN (I : Nat → Int32) (ri : Nat → Nat → Int32) : Nat → Int32 := skS (ri 232 (tmod (I 320)).toNatClampNeg) (ri 79) (ri 75) (ri 73) (I 65).toNatClampNeg
def reN (I : Nat → Int32) (ri : Nat → Nat → Int32) : Nat → Int32 := fun j => if j < (I 65).toNatClampNeg then rfS (rfN I ri) (ri 74 j) else ri 74 j
def dryN (a0 : Int32) (I : Nat → Int32) (ri : Nat → Nat → Int32) (j : Nat) : Bool := decide (j < (I 65).toNatClampNeg ∧ ¬ topS (ri 70) (sdN I ri) (reN I ri) (ri 75) j ≤ lvN a0 I ri + ri 230 (tmod (I 320)).toNatClampNeg)
/-- the numbers that a country has at most -/
def RN (I : Nat → Int32) : Prop := (0 ≤ (I 320).toInt ∧ (I 320).toInt ≤ 600) ∧ (0 ≤ (I 65).toInt ∧ (I 65).toInt ≤ 40) ∧ (0 ≤ (I 224).toInt ∧ (I 224).toInt ≤ 200)
theorem nature_v {a0 : Int32} (hN : RN I) (h6 : (I 320).toInt < 600) : ∃ (I1 : Nat → Int32) (J1 : Nat → Int64) (r1 : Nat → Nat → Int32) (l1 : Nat → Nat → Int64), g_X10_nature a0 I J ri rj rq = (I1, J1, r1, l1, rq) ∧ (∀ f, f ≠ 66 → I1 f = I f) ∧ r1 73 = sdN I ri ∧ r1 74 = reN I ri ∧ (∀ t, t ∉ [73, 74, 76, 77, 81] → r1 t = ri t) ∧ (∀ t, t ≠ 68 → l1 t = rj t) ∧ (∀ f, f ≠ 67 → J1 f = J f) ∧ ∀ j, j < 64 → hb (J1 67) j = dryN a0 I ri j := by
  obtain ⟨⟨m0, m6⟩, ⟨c0, c4⟩, ⟨l0, l2⟩⟩ := hN
  have tm := tmod_r (m := I 320) m0 (by omega)
  have rest : ∃ (I1 : Nat → Int32) (J1 : Nat → Int64) (r1 : Nat → Nat → Int32) (l1 : Nat → Nat → Int64), g_X10_nature_K77 I J ri rj rq (tmod (I 320)) (lvN a0 I ri) (rfN I ri) = (I1, J1, r1, l1, rq) ∧ (∀ f, f ≠ 66 → I1 f = I f) ∧ r1 73 = sdN I ri ∧ r1 74 = reN I ri ∧ (∀ t, t ∉ [73, 74, 76, 77, 81] → r1 t = ri t) ∧ (∀ t, t ≠ 68 → l1 t = rj t) ∧ (∀ f, f ≠ 67 → J1 f = J f) ∧ ∀ j, j < 64 → hb (J1 67) j = dryN a0 I ri j := by
    rw [g_X10_nature_K77_e, growReef_v c0 c4]
    simp only [bnV_u, ↓ap1_n]
    obtain ⟨I1, g, hI, hw⟩ := walk_v (I := I) (J := J) (ri := mapR 74 (fun _ => rfS (rfN I ri)) 0 (I 65).toNatClampNeg ri) (rj := rj) (rq := rq) (a0 := mapR 74 (fun _ => rfS (rfN I ri)) 0 (I 65).toNatClampNeg ri 232 (tmod (I 320)).toNatClampNeg) c0 c4
    rw [hw]
    simp only
    rw [mapR_o (show (232 : Nat) ≠ 74 by decide), mapR_o (show (79 : Nat) ≠ 74 by decide), mapR_o (show (75 : Nat) ≠ 74 by decide), mapR_o (show (73 : Nat) ≠ 74 by decide)]
    generalize hR : va_up (va_up (mapR 74 (fun _ => rfS (rfN I ri)) 0 (I 65).toNatClampNeg ri) 81 g) 73 (skS (ri 232 (tmod (I 320)).toNatClampNeg) (ri 79) (ri 75) (ri 73) (I 65).toNatClampNeg) = R
    have R73 : R 73 = sdN I ri := by rw [← hR, va_up_self]; rfl
    have R74 : R 74 = reN I ri := by
      rw [← hR, va_up_ne _ _ (show (74 : Nat) ≠ 73 by decide), va_up_ne _ _ (show (74 : Nat) ≠ 81 by decide), mapR_t]
      funext j
      unfold reN
      by_cases q : j < (I 65).toNatClampNeg
      · rw [if_pos ⟨Nat.zero_le _, q⟩, if_pos q]
      · rw [if_neg (fun y => q y.2), if_neg q]
    have Ro : ∀ t, t ∉ [73, 74, 81] → R t = ri t := fun t ht => by
      simp only [List.mem_cons, List.not_mem_nil, or_false, not_or] at ht
      rw [← hR, va_up_ne _ _ ht.1, va_up_ne _ _ ht.2.2, mapR_o ht.2.1]
    have I320 : I1 320 = I 320 := hI 320 (by decide)
    have I65 : I1 65 = I 65 := hI 65 (by decide)
    obtain ⟨d, k, u, ht, hd, hk, hu⟩ := tide_v (I := I1) (J := J) (ri := R) (rj := rj) (rq := rq) (m := I1 320) (hi := lvN a0 I ri + R 230 (tmod (I 320)).toNatClampNeg) (lo := lvN a0 I ri + R 229 (tmod (I 320)).toNatClampNeg) (by rw [I65]; exact c0) (by rw [I65]; exact c4) (by rw [I320]; exact m0) (by rw [I320]; exact h6)
    rw [ht]
    simp only
    -- BEDS given up: a row of its own
    have fr : FRG id w_X2_giveUpBeds (I1, va_up J 67 d, va_up R 77 u, va_up rj 68 (vp_updL (rj 68) (I1 320).toNatClampNeg k), rq) (g_X2_giveUpBeds I1 (va_up J 67 d) (va_up R 77 u) (va_up rj 68 (vp_updL (rj 68) (I1 320).toNatClampNeg k)) rq) := g_X2_giveUpBeds_f
    generalize g_X2_giveUpBeds I1 (va_up J 67 d) (va_up R 77 u) (va_up rj 68 (vp_updL (rj 68) (I1 320).toNatClampNeg k)) rq = q at fr ⊢
    obtain ⟨I2, J2, r2, l2, q2⟩ := q
    obtain ⟨f1, f2, f3, f4, f5⟩ := fr
    have g3 : ∀ t, t ≠ 76 → r2 t = va_up R 77 u t := fun t ht => f3 t (fun x => ht (List.mem_singleton.mp x))
    have g1 : ∀ f, I2 f = I1 f := fun f => f1 f (fun x => by have y : f ∈ ([] : List Nat) := x; cases y)
    have g2 : ∀ f, J2 f = va_up J 67 d f := fun f => f2 f (fun x => by have y : f ∈ ([] : List Nat) := x; cases y)
    have g4 : ∀ t, l2 t = va_up rj 68 (vp_updL (rj 68) (I1 320).toNatClampNeg k) t := fun f => f4 f (fun x => by have y : f ∈ ([] : List Nat) := x; cases y)
    have g5 : q2 = rq := funext fun f => f5 f (fun x => by have y : f ∈ ([] : List Nat) := x; cases y)
    refine ⟨I2, J2, r2, l2, by rw [g5, show I2 = I1 from funext g1, show J2 = va_up J 67 d from funext g2, show l2 = va_up rj 68 (vp_updL (rj 68) (I1 320).toNatClampNeg k) from funext g4], fun f hf => (g1 f).trans (hI f hf), ?_, ?_, fun t ht => ?_, fun t ht => ?_, fun f hf => ?_, fun j hj => ?_⟩
    · rw [g3 73 (by decide), va_up_ne _ _ (show (73 : Nat) ≠ 77 by decide)]; exact R73
    · rw [g3 74 (by decide), va_up_ne _ _ (show (74 : Nat) ≠ 77 by decide)]; exact R74
    · simp only [List.mem_cons, List.not_mem_nil, or_false, not_or] at ht
      rw [g3 t ht.2.2.1, va_up_ne _ _ ht.2.2.2.1]
      exact Ro t (by simp only [List.mem_cons, List.not_mem_nil, or_false, not_or]; exact ⟨ht.1, ht.2.1, ht.2.2.2.2⟩)
    · rw [g4, va_up_ne _ _ ht]
    · rw [g2, va_up_ne _ _ hf]
    · rw [g2, va_up_self, hd j hj, I65, R73, R74, Ro 70 (by decide), Ro 75 (by decide), Ro 230 (by decide)]
      rfl
  have k6 : (600 : Int32).toInt = 600 := by decide
  rw [g_X10_nature_e]
  simp only [↓ap1_n]
  rw [if_pos (Int32.lt_iff_toInt_lt.mpr (by omega)), known_v m0 (by omega) l0 l2]
  simp only [bnI_u]
  by_cases q : I 234 < ri 231 (I 320 - I 320 / 12 * 12).toNatClampNeg
  · rw [if_pos q]
    have e : rfN I ri = -(I 236) := if_pos q
    rw [e] at rest
    exact rest
  · rw [if_neg q]
    have e : rfN I ri = I 235 := if_neg q
    rw [e] at rest
    exact rest
end PU9
/-! ===== pure: a month of the reference; both sides go on alike ===== -/
section PU10
variable {I : Nat → Int32} {J : Nat → Int64} {ri : Nat → Nat → Int32} {rj : Nat → Nat → Int64} {rq : Nat → Nat → Option Nat}
variable {U : Nat → Int32} {V : Nat → Int64} {si : Nat → Nat → Int32} {sj : Nat → Nat → Int64} {sq : Nat → Nat → Option Nat}
/-- SEAS and LAND of a country: the class's and the reference's row -/
def RLV (I : Nat → Int32) (ri : Nat → Nat → Int32) (A : Nat → Int32) : Prop := LVR (ri 225) (ri 226) (ri 227) (ri 228) (A5 A 0) (A5 A 1) (A5 A 2) (A5 A 3) (A5 A 4) (I 224).toNatClampNeg
def RTB (I : Nat → Int32) (ri : Nat → Nat → Int32) (A : Nat → Int32) : Prop := (∀ j, j < 12 → ri 229 j = A (20 + 5 * j + 0) ∧ ri 230 j = A (20 + 5 * j + 1) ∧ ri 231 j = A (20 + 5 * j + 2) ∧ ri 232 j = A (20 + 5 * j + 3)) ∧ I 234 = A 13 ∧ I 235 = A 14 ∧ I 236 = A 15
def RLD (ri : Nat → Nat → Int32) (A : Nat → Int32) : Prop := ∀ c, c < 40 → A (100 + 16 * c) = ri 69 c ∧ A (100 + 16 * c + 1) = ri 70 c ∧ A (100 + 16 * c + 4) = ri 73 c ∧ A (100 + 16 * c + 5) = ri 74 c ∧ A (100 + 16 * c + 6) = ri 75 c ∧ 0 ≤ (ri 75 c).toInt
def RCN (I : Nat → Int32) (A : Nat → Int32) : Prop := I 320 = A 0 ∧ I 64 = A 1 ∧ I 65 = A 2 ∧ I 224 = A 3
def RMX (A : Nat → Int32) : Prop := (0 ≤ (A 1).toInt ∧ (A 1).toInt ≤ 5) ∧ (0 ≤ (A 5).toInt ∧ (A 5).toInt ≤ 40) ∧ (A 4).toInt ≤ 5
def NX (I : Nat → Int32) (ri : Nat → Nat → Int32) : Prop := NXT (ri 79) (ri 69) (I 65).toNatClampNeg ∧ ∀ j, (I 65).toNatClampNeg ≤ j → j < 40 → ri 79 j = -1
def RSL (I : Nat → Int32) (ri : Nat → Nat → Int32) (A : Nat → Int32) : Prop := RN I ∧ RMX A ∧ RCN I A ∧ RLV I ri A ∧ RTB I ri A ∧ RLD ri A ∧ NX I ri
/-- a month of the reference: what becomes of SAND, REEF, DRY; what stands -/
theorem month_v {a0 : Int32} (h : RSL I ri (si 384)) (h6 : (I 320).toInt < 600) : ∃ (U1 : Nat → Int32) (s1 : Nat → Nat → Int32) (l1 : Nat → Nat → Int64), g_X12_month a0 U V si sj sq = (U1, V, s1, l1, sq) ∧ (∀ t, t ∉ [384, 405, 409, 411, 412] → s1 t = si t) ∧ (s1 384 0 = si 384 0 + 1) ∧ (∀ c, c < 40 → s1 384 (100 + 16 * c + 4) = sdN I ri c) ∧ (∀ c, c < 40 → s1 384 (100 + 16 * c + 5) = reN I ri c) ∧ (∀ c, c < (I 65).toNatClampNeg → s1 384 (100 + 16 * c + 12) = if dryN a0 I ri c = true then 1 else 0) ∧ (∀ i, (i ≠ 0 ∧ i ≠ 8 ∧ i ≠ 9 ∧ i ≠ 12 ∧ i ≠ 18) → (i < 2520 ∨ 3720 ≤ i) → (∀ c k, c < 40 → k ∈ [4, 5, 7, 9, 10, 11, 12, 13] → i ≠ 100 + 16 * c + k) → (∀ p k, p < 40 → k ∈ [3, 5, 6, 7] → i ≠ 740 + 12 * p + k) → s1 384 i = si 384 i) ∧ zk (si 384) (s1 384) := by
  obtain ⟨⟨⟨m0, m6⟩, ⟨c0, c4⟩, ⟨l0, l2⟩⟩, ⟨⟨r0, r5⟩, ⟨p0, p4⟩, q4⟩, ⟨e0, e1, e2, e3⟩, hlv, ⟨htb, hb, hg, hd⟩, hld, hnx⟩ := h
  have k0 : (0 : Int32).toNatClampNeg = 0 := by decide
  have tm := tmod_r (m := I 320) m0 (by omega)
  have ztm := clampE (tmod (I 320))
  have tmS : 0 ≤ (tmod (si 384 0)).toInt ∧ (tmod (si 384 0)).toInt ≤ 11 := by rw [← e0]; exact tm
  have ztS := clampE (tmod (si 384 0))
  have hT := htb (tmod (I 320)).toNatClampNeg (by omega)
  rw [e0] at m0 m6 h6
  rw [e2] at c0 c4
  rw [e3] at l0 l2
  rw [g_X12_month_e]
  simp only [↓ap1_n]
  -- REEF
  obtain ⟨A1, ev1, z1, v1⟩ := reefGoes_v (I := U) (J := V) (ri := si) (rj := sj) (rq := sq) (m := si 384 (0 : Int32).toNatClampNeg) (by rw [k0]; exact m0) (by rw [k0]; omega) c0 c4
  rw [ev1]
  simp only [bnV_u]
  rw [k0] at v1 ⊢
  have f1 : ∀ i, (∀ c, c < 40 → i ≠ 100 + 16 * c + 5) → va_up si 384 A1 384 i = si 384 i := fun i hi => by rw [va_up_self]; exact z1 i hi
  have re1 : ∀ c, c < 40 → va_up si 384 A1 384 (100 + 16 * c + 5) = reN I ri c := fun c hc => by
    rw [va_up_self, v1 c hc]
    unfold reN
    rw [(hld c hc).2.2.2.1, e2]
    have er : rfm (si 384) (tmod (si 384 0)).toNatClampNeg = rfN I ri := by
      unfold rfm rfN
      rw [hb, hg, hd, hT.2.2.1, ← e0]
    rw [er]
  -- SAND
  have c2' : va_up si 384 A1 384 2 = I 65 := (f1 2 (fun c _ => by omega)).trans e2.symm
  obtain ⟨g, A2, ev2, z2, v2⟩ := sandGoes_v (I := U) (J := V) (ri := va_up si 384 A1) (rj := sj) (rq := sq) (m := si 384 0) (nx := ri 79) (s := ri 73) (w := ri 75) (rg := ri 69) m0 (by omega) (by rw [c2', e2]; exact c0) (by rw [c2', e2]; exact c4) (by rw [c2']; exact hnx.1) (fun c hc => (f1 _ (fun c2 _ => by omega)).trans (hld c hc).1) (fun c hc => (f1 _ (fun c2 _ => by omega)).trans (hld c hc).2.2.1) (fun c hc => ⟨(f1 _ (fun c2 _ => by omega)).trans (hld c hc).2.2.2.2.1, (hld c hc).2.2.2.2.2⟩)
  rw [ev2]
  simp only
  generalize hS2 : va_up (va_up (va_up si 384 A1) 409 g) 384 A2 = S2
  have S2a : S2 384 = A2 := by rw [← hS2, va_up_self]
  have S2o : ∀ t, t ≠ 384 → t ≠ 409 → S2 t = si t := fun t h1 h2 => by rw [← hS2, va_up_ne _ _ h1, va_up_ne _ _ h2, va_up_ne _ _ h1]
  have f2 : ∀ i, i ≠ 9 → (∀ c k, c < 40 → k ∈ [4, 5] → i ≠ 100 + 16 * c + k) → S2 384 i = si 384 i := fun i h9 hi => by
    rw [S2a, z2 i h9 (fun c hc => hi c 4 hc (by decide))]
    exact f1 i (fun c hc => hi c 5 hc (by decide))
  have sd2 : ∀ c, c < 40 → S2 384 (100 + 16 * c + 4) = sdN I ri c := fun c hc => by
    rw [S2a, v2 c hc, c2', f1 _ (fun c2 _ => by omega)]
    unfold sdN
    rw [hT.2.2.2, e0]
  have re2 : ∀ c, c < 40 → S2 384 (100 + 16 * c + 5) = reN I ri c := fun c hc => by
    rw [S2a, z2 _ (by omega) (fun c2 _ => by omega)]
    exact re1 c hc
  -- the LEVEL
  have n3 : S2 384 3 = I 224 := (f2 3 (by decide) (fun c k _ hk => by simp only [List.mem_cons, List.not_mem_nil, or_false] at hk; omega)).trans e3.symm
  have hlvl : g_X12_levelAt a0 (si 384 0) (si 384 0) U V S2 sj sq = (lvN a0 I ri, U, V, S2, sj, sq) := by
    rw [levelAt_v (by rw [n3, e3]; exact l0) (by rw [n3, e3]; exact l2), n3]
    have a5 : ∀ o, o ≤ 4 → ∀ k, k < 200 → A5 (S2 384) o k = A5 (si 384) o k := fun o ho k hk => f2 _ (by omega) (fun c k2 _ hk2 => by simp only [List.mem_cons, List.not_mem_nil, or_false] at hk2; omega)
    have hn2 : (I 224).toNatClampNeg ≤ 200 := by
      have z := clampE (I 224)
      rw [e3] at z ⊢
      omega
    have hL : LVR (ri 225) (ri 226) (ri 227) (ri 228) (A5 (S2 384) 0) (A5 (S2 384) 1) (A5 (S2 384) 2) (A5 (S2 384) 3) (A5 (S2 384) 4) (I 224).toNatClampNeg := fun k hk => by
      rw [a5 0 (by decide) k (by omega), a5 1 (by decide) k (by omega), a5 2 (by decide) k (by omega), a5 3 (by decide) k (by omega), a5 4 (by decide) k (by omega)]
      exact hlv k hk
    rw [← fin_eq hL, ← e0]
    rfl
  rw [hlvl]
  simp only [bnI_u]
  -- the tides
  have S22 : S2 384 2 = I 65 := (f2 2 (by decide) (fun c k _ hk => by simp only [List.mem_cons, List.not_mem_nil, or_false] at hk; omega)).trans e2.symm
  obtain ⟨A3, ev3, z3, v3⟩ := seaStands_v (I := U) (J := V) (ri := S2) (rj := sj) (rq := sq) (m := si 384 0) (lv := lvN a0 I ri) m0 h6 (by rw [S22, e2]; exact c0) (by rw [S22, e2]; exact c4)
  rw [ev3]
  simp only
  have f3 : ∀ i, i ≠ 9 → (i < 2520 ∨ 3720 ≤ i) → (∀ c k, c < 40 → k ∈ [4, 5, 7, 9, 10, 11, 12, 13] → i ≠ 100 + 16 * c + k) → A3 i = si 384 i := fun i h9 hr hi => by
    rw [z3 i hr (fun c k hc hk => hi c k hc (by simp only [List.mem_cons, List.not_mem_nil, or_false] at hk ⊢; omega))]
    exact f2 i h9 (fun c k hc hk => hi c k hc (by simp only [List.mem_cons, List.not_mem_nil, or_false] at hk ⊢; omega))
  have sd3 : ∀ c, c < 40 → A3 (100 + 16 * c + 4) = sdN I ri c := fun c hc => by
    rw [z3 _ (Or.inl (by omega)) (fun c2 k h2 hk => by simp only [List.mem_cons, List.not_mem_nil, or_false] at hk; omega)]; exact sd2 c hc
  have re3 : ∀ c, c < 40 → A3 (100 + 16 * c + 5) = reN I ri c := fun c hc => by
    rw [z3 _ (Or.inl (by omega)) (fun c2 k h2 hk => by simp only [List.mem_cons, List.not_mem_nil, or_false] at hk; omega)]; exact re2 c hc
  have small : ∀ i, i < 20 → i ≠ 9 → A3 i = si 384 i := fun i hi h9 => f3 i h9 (Or.inl (by omega)) (fun c k _ _ => by omega)
  have dr3 : ∀ c, c < (I 65).toNatClampNeg → A3 (100 + 16 * c + 12) = if dryN a0 I ri c = true then 1 else 0 := fun c hc => by
    have zc := clampE (I 65)
    have hc40 : c < 40 := by rw [e2] at zc hc; omega
    rw [v3 c (by rw [S22]; exact hc)]
    have et : topA (S2 384) c = topS (ri 70) (sdN I ri) (reN I ri) (ri 75) c := by
      unfold topA topS
      rw [sd2 c hc40, re2 c hc40, f2 _ (by omega) (fun c2 k h2 hk => by simp only [List.mem_cons, List.not_mem_nil, or_false] at hk; omega), f2 _ (by omega) (fun c2 k h2 hk => by simp only [List.mem_cons, List.not_mem_nil, or_false] at hk; omega), (hld c hc40).2.1, (hld c hc40).2.2.2.2.1]
    have eh : S2 384 (20 + 5 * (tmod (si 384 0)).toNatClampNeg + 1) = ri 230 (tmod (I 320)).toNatClampNeg := by
      rw [← e0, f2 _ (by omega) (fun c2 k h2 hk => by simp only [List.mem_cons, List.not_mem_nil, or_false] at hk; omega)]
      exact hT.2.1.symm
    rw [et, eh]
    unfold dryN
    by_cases q : topS (ri 70) (sdN I ri) (reN I ri) (ri 75) c ≤ lvN a0 I ri + ri 230 (tmod (I 320)).toNatClampNeg
    · rw [if_pos q, if_neg (fun y => (of_decide_eq_true y).2 q)]
    · rw [if_neg q, if_pos (decide_eq_true ⟨hc, q⟩)]
  -- drinking, sleep, THE FUND
  have B1 : va_up S2 384 A3 384 1 = si 384 1 := by rw [va_up_self]; exact small 1 (by decide) (by decide)
  have B2 : va_up S2 384 A3 384 2 = si 384 2 := by rw [va_up_self]; exact small 2 (by decide) (by decide)
  have B5 : va_up S2 384 A3 384 5 = si 384 5 := by rw [va_up_self]; exact small 5 (by decide) (by decide)
  obtain ⟨A4, ev4, z4⟩ := drink_f (I := U) (J := V) (ri := va_up S2 384 A3) (rj := sj) (rq := sq) (by rw [B2]; exact c0) (by rw [B2]; exact c4) (by rw [B5]; exact p4)
  rw [va_up_self] at z4
  rw [ev4, up_up]
  simp only
  have cnt : ∀ A : Nat → Int32, zm A3 A → ∀ i, i = 1 ∨ i = 2 ∨ i = 5 ∨ i = 4 → va_up S2 384 A 384 i = si 384 i := fun A hA i hi => by
    rw [va_up_self, hA.1 i (by omega) (fun c _ => by omega) (fun p k _ _ => by omega)]
    exact small i (by omega) (by omega)
  obtain ⟨A5', ev5, z5⟩ := sleep_f (I := U) (J := V) (ri := va_up S2 384 A4) (rj := sj) (rq := sq) (by rw [cnt A4 z4 1 (Or.inl rfl)]; exact r5) (by rw [cnt A4 z4 2 (Or.inr (Or.inl rfl))]; exact c4) (by rw [cnt A4 z4 5 (Or.inr (Or.inr (Or.inl rfl)))]; exact p4)
  rw [va_up_self] at z5
  rw [ev5, up_up]
  simp only
  have z45 := zm_tr z4 z5
  obtain ⟨U2, A6, ev6, z6, hU2⟩ := fundGoes_f (I := U) (J := V) (ri := va_up S2 384 A5') (rj := sj) (rq := sq) (m := si 384 0) (by rw [cnt A5' z45 2 (Or.inr (Or.inl rfl))]; exact c4) (by rw [cnt A5' z45 5 (Or.inr (Or.inr (Or.inl rfl)))]; exact p4)
  rw [va_up_self] at z6
  rw [ev6, up_up]
  simp only
  have z46 := zm_tr z45 z6
  obtain ⟨U3, S7, L7, ev7, _, o7, z7⟩ := boatsGo_f (I := U2) (J := V) (ri := va_up S2 384 A6) (rj := sj) (rq := sq) (m := si 384 0) (by rw [cnt A6 z46 5 (Or.inr (Or.inr (Or.inl rfl)))]; exact p4) (by rw [cnt A6 z46 4 (Or.inr (Or.inr (Or.inr rfl)))]; exact q4)
  rw [va_up_self] at z7
  rw [ev7]
  simp only
  have z47 := zm_tr z46 z7
  refine ⟨U3, _, L7, rfl, fun t ht => ?_, ?_, fun c hc => ?_, fun c hc => ?_, fun c hc => ?_, fun i hi hr hcl hpe => ?_, fun p hp => ?_, ?_⟩
  · simp only [List.mem_cons, List.not_mem_nil, or_false, not_or] at ht
    rw [va_up_ne _ _ ht.1, o7 t (by simp only [List.mem_cons, List.not_mem_nil, or_false, not_or]; exact ⟨ht.1, ht.2.1, ht.2.2.2.1, ht.2.2.2.2⟩), va_up_ne _ _ ht.1]
    exact S2o t ht.1 ht.2.2.1
  · rw [va_up_self, upd_s]
  · rw [va_up_self, upd_n _ _ (by omega), z47.1 _ (by omega) (fun c2 _ => by omega) (fun p k _ _ => by omega)]; exact sd3 c hc
  · rw [va_up_self, upd_n _ _ (by omega), z47.1 _ (by omega) (fun c2 _ => by omega) (fun p k _ _ => by omega)]; exact re3 c hc
  · have zc := clampE (I 65)
    have hc40 : c < 40 := by rw [e2] at zc hc; omega
    rw [va_up_self, upd_n _ _ (by omega), z47.1 _ (by omega) (fun c2 _ => by omega) (fun p k _ _ => by omega)]; exact dr3 c hc
  · rw [va_up_self, upd_n _ _ hi.1, z47.1 i ⟨hi.2.1, hi.2.2.2.1, hi.2.2.2.2⟩ (fun c hc => hcl c 9 hc (by decide)) hpe]
    exact f3 i hi.2.2.1 hr hcl
  · rw [va_up_self, upd_n _ _ (by omega)]
    have q := z47.2 p hp
    rw [f3 (740 + 12 * p + 3) (by omega) (Or.inl (by omega)) (fun c k hc hk => by simp only [List.mem_cons, List.not_mem_nil, or_false] at hk; omega)] at q
    exact q
  · rw [va_up_self, upd_n _ _ (by decide), z47.1 5 (by decide) (fun c _ => by omega) (fun p k _ _ => by omega)]
    exact small 5 (by decide) (by decide)
/-- a month goes by on both sides -/
theorem RL_month {a0 : Int32} {I1 : Nat → Int32} {r1 s1 : Nat → Nat → Int32} (h : RSL I ri (si 384)) (h6 : (I 320).toInt < 600) (hI : ∀ f, f ∈ [64, 65, 224, 234, 235, 236] → I1 f = I f) (hI0 : I1 320 = I 320 + 1) (h73 : r1 73 = sdN I ri) (h74 : r1 74 = reN I ri) (hr : ∀ t, t ∈ [69, 70, 75, 79, 225, 226, 227, 228, 229, 230, 231, 232] → r1 t = ri t) (s0 : s1 384 0 = si 384 0 + 1) (s4 : ∀ c, c < 40 → s1 384 (100 + 16 * c + 4) = sdN I ri c) (s5 : ∀ c, c < 40 → s1 384 (100 + 16 * c + 5) = reN I ri c) (so : ∀ i, (i ≠ 0 ∧ i ≠ 8 ∧ i ≠ 9 ∧ i ≠ 12 ∧ i ≠ 18) → (i < 2520 ∨ 3720 ≤ i) → (∀ c k, c < 40 → k ∈ [4, 5, 7, 9, 10, 11, 12, 13] → i ≠ 100 + 16 * c + k) → (∀ p k, p < 40 → k ∈ [3, 5, 6, 7] → i ≠ 740 + 12 * p + k) → s1 384 i = si 384 i) : RSL I1 r1 (s1 384) := by
  obtain ⟨⟨⟨m0, m6⟩, hc, hl⟩, hmx, ⟨e0, e1, e2, e3⟩, hlv, ⟨htb, hb, hg, hd⟩, hld, hnx⟩ := h
  have sm : ∀ i, i < 100 → i ≠ 0 → i ≠ 8 → i ≠ 9 → i ≠ 12 → i ≠ 18 → s1 384 i = si 384 i := fun i hi a b c d e => so i ⟨a, b, c, d, e⟩ (Or.inl (by omega)) (fun _ _ _ _ => by omega) (fun _ _ _ _ => by omega)
  have q0 : (I 320 + 1).toInt = (I 320).toInt + 1 := t1_one (by omega) (by omega)
  have f64 := hI 64 (by decide)
  have f65 := hI 65 (by decide)
  have f224 := hI 224 (by decide)
  refine ⟨⟨⟨by rw [hI0, q0]; omega, by rw [hI0, q0]; omega⟩, by rw [f65]; exact hc, by rw [f224]; exact hl⟩, ⟨by rw [sm 1 (by decide) (by decide) (by decide) (by decide) (by decide) (by decide)]; exact hmx.1, by rw [sm 5 (by decide) (by decide) (by decide) (by decide) (by decide) (by decide)]; exact hmx.2.1, by rw [sm 4 (by decide) (by decide) (by decide) (by decide) (by decide) (by decide)]; exact hmx.2.2⟩, ⟨by rw [hI0, s0, e0], by rw [f64, sm 1 (by decide) (by decide) (by decide) (by decide) (by decide) (by decide)]; exact e1, by rw [f65, sm 2 (by decide) (by decide) (by decide) (by decide) (by decide) (by decide)]; exact e2, by rw [f224, sm 3 (by decide) (by decide) (by decide) (by decide) (by decide) (by decide)]; exact e3⟩, ?_, ?_, ?_, ?_⟩
  · have a5 : ∀ o, o ≤ 4 → ∀ k, k < 200 → A5 (s1 384) o k = A5 (si 384) o k := fun o ho k hk => so _ (by omega) (Or.inl (by omega)) (fun c k2 _ hk2 => by simp only [List.mem_cons, List.not_mem_nil, or_false] at hk2; omega) (fun p k2 _ hk2 => by simp only [List.mem_cons, List.not_mem_nil, or_false] at hk2; omega)
    have zn := clampE (I 224)
    show LVR _ _ _ _ _ _ _ _ _ _
    rw [f224, hr 225 (by decide), hr 226 (by decide), hr 227 (by decide), hr 228 (by decide)]
    intro k hk
    rw [a5 0 (by decide) k (by omega), a5 1 (by decide) k (by omega), a5 2 (by decide) k (by omega), a5 3 (by decide) k (by omega), a5 4 (by decide) k (by omega)]
    exact hlv k hk
  · refine ⟨fun j hj => ?_, ?_, ?_, ?_⟩
    · rw [hr 229 (by decide), hr 230 (by decide), hr 231 (by decide), hr 232 (by decide), sm _ (by omega) (by omega) (by omega) (by omega) (by omega) (by omega), sm _ (by omega) (by omega) (by omega) (by omega) (by omega) (by omega), sm _ (by omega) (by omega) (by omega) (by omega) (by omega) (by omega), sm _ (by omega) (by omega) (by omega) (by omega) (by omega) (by omega)]
      exact htb j hj
    · rw [hI 234 (by decide), sm 13 (by decide) (by decide) (by decide) (by decide) (by decide) (by decide)]; exact hb
    · rw [hI 235 (by decide), sm 14 (by decide) (by decide) (by decide) (by decide) (by decide) (by decide)]; exact hg
    · rw [hI 236 (by decide), sm 15 (by decide) (by decide) (by decide) (by decide) (by decide) (by decide)]; exact hd
  · intro c hc
    have one : ∀ k, k ∈ [0, 1, 6] → s1 384 (100 + 16 * c + k) = si 384 (100 + 16 * c + k) := fun k hk => by
      simp only [List.mem_cons, List.not_mem_nil, or_false] at hk
      exact so _ (by omega) (Or.inl (by omega)) (fun c2 k2 _ hk2 => by simp only [List.mem_cons, List.not_mem_nil, or_false] at hk2; omega) (fun p k2 _ hk2 => by simp only [List.mem_cons, List.not_mem_nil, or_false] at hk2; omega)
    have o0 := one 0 (by decide)
    rw [Nat.add_zero] at o0
    rw [o0, one 1 (by decide), one 6 (by decide), s4 c hc, s5 c hc, hr 69 (by decide), hr 70 (by decide), hr 75 (by decide), h73, h74]
    have x := hld c hc
    exact ⟨x.1, x.2.1, rfl, rfl, x.2.2.2.2.1, x.2.2.2.2.2⟩
  · show NXT _ _ _ ∧ _
    rw [hr 79 (by decide), hr 69 (by decide), f65]
    exact hnx
end PU10
/-! ===== pure: months, on both sides ===== -/
theorem bnV_mk {β : Type} {I : Nat → Int32} {J : Nat → Int64} {ri : Nat → Nat → Int32} {rj : Nat → Nat → Int64} {rq : Nat → Nat → Option Nat} {k : (Nat → Int32) → (Nat → Int64) → (Nat → Nat → Int32) → (Nat → Nat → Int64) → (Nat → Nat → Option Nat) → β} : bnV (I, J, ri, rj, rq) k = k I J ri rj rq := of_eq_true (eq_self (k I J ri rj rq))
theorem bnI_mk {α β : Type} {v : α} {I : Nat → Int32} {J : Nat → Int64} {ri : Nat → Nat → Int32} {rj : Nat → Nat → Int64} {rq : Nat → Nat → Option Nat} {k : α → (Nat → Int32) → (Nat → Int64) → (Nat → Nat → Int32) → (Nat → Nat → Int64) → (Nat → Nat → Option Nat) → β} : bnI (v, I, J, ri, rj, rq) k = k v I J ri rj rq := of_eq_true (eq_self (k v I J ri rj rq))
theorem bV_of {β : Type} {P : β → Prop} {s : wS} {μ p : vM} {k : (Nat → Int32) → (Nat → Int64) → (Nat → Nat → Int32) → (Nat → Nat → Int64) → (Nat → Nat → Option Nat) → β} (h : FRG id s μ p) (H : ∀ I J ri rj rq, FRV s μ (I, J, ri, rj, rq) → P (k I J ri rj rq)) : P (bnV p k) := H _ _ _ _ _ h
theorem bI_of {α β : Type} {P : β → Prop} {s : wS} {μ : vM} {p : α × vM} {k : α → (Nat → Int32) → (Nat → Int64) → (Nat → Nat → Int32) → (Nat → Nat → Int64) → (Nat → Nat → Option Nat) → β} (h : FRG Prod.snd s μ p) (H : ∀ r I J ri rj rq, FRV s μ (I, J, ri, rj, rq) → P (k r I J ri rj rq)) : P (bnI p k) := H _ _ _ _ _ _ h
section PU11
variable {I : Nat → Int32} {J : Nat → Int64} {ri : Nat → Nat → Int32} {rj : Nat → Nat → Int64} {rq : Nat → Nat → Option Nat}
variable {U : Nat → Int32} {V : Nat → Int64} {si : Nat → Nat → Int32} {sj : Nat → Nat → Int64} {sq : Nat → Nat → Option Nat}
def GB (x : Int32) (s r : Nat → Int32) (b : vM) : Prop := b.1 320 = x ∧ b.2.2.1 73 = s ∧ b.2.2.1 74 = r
theorem goBy_v {tI : Nat → Nat → Int32} {tR : Nat → Nat → Nat → Int32} {a0 : Int32} (hN : RN I) (h6 : (I 320).toInt < 600) : ∃ (I1 : Nat → Int32) (J1 : Nat → Int64) (r1 : Nat → Nat → Int32) (l1 : Nat → Nat → Int64), g_X10_goBy tI tR a0 I J ri rj rq = (I1, J1, r1, l1, rq) ∧ (∀ f, f ∈ [64, 65, 224, 234, 235, 236] → I1 f = I f) ∧ I1 320 = I 320 + 1 ∧ r1 73 = sdN I ri ∧ r1 74 = reN I ri ∧ ∀ t, t ∈ [69, 70, 75, 79, 225, 226, 227, 228, 229, 230, 231, 232] → r1 t = ri t := by
  obtain ⟨I1, J1, r1, l1, en, n1, n73, n74, nr, nl, nj, _⟩ := nature_v (I := I) (J := J) (ri := ri) (rj := rj) (rq := rq) (a0 := a0) hN h6
  have k6 : (600 : Int32).toInt = 600 := by decide
  have hG : GB (I 320 + 1) (sdN I ri) (reN I ri) (g_X10_goBy tI tR a0 I J ri rj rq) := by
    rw [g_X10_goBy_e]
    simp only [↓ap1_n]
    rw [if_pos (Int32.lt_iff_toInt_lt.mpr (by rw [k6]; exact h6)), en, bnV_mk]
    refine bV_of g_X9_fillUp_f (fun _ _ ra _ _ h1 => ?_)
    refine bV_of g_X2_countBeds_332_f (fun _ _ rb _ _ h2 => ?_)
    refine bI_of g_X0_drink_f (fun _ _ _ rc _ _ h3 => ?_)
    refine bI_of g_X0_sleep_332_f (fun _ _ _ rd _ _ h4 => ?_)
    refine bV_of g_X10_reckon_f (fun I2 _ re _ _ h5 => ?_)
    have z1 : ra 73 = r1 73 := h1.2.2.1 73 (by decide)
    have y1 : ra 74 = r1 74 := h1.2.2.1 74 (by decide)
    have z2 : rb 73 = ra 73 := h2.2.2.1 73 (by decide)
    have y2 : rb 74 = ra 74 := h2.2.2.1 74 (by decide)
    have z3 : rc 73 = rb 73 := h3.2.2.1 73 (by decide)
    have y3 : rc 74 = rb 74 := h3.2.2.1 74 (by decide)
    have z4 : rd 73 = rc 73 := h4.2.2.1 73 (by decide)
    have y4 : rd 74 = rc 74 := h4.2.2.1 74 (by decide)
    have z5 : re 73 = rd 73 := h5.2.2.1 73 (by decide)
    have y5 : re 74 = rd 74 := h5.2.2.1 74 (by decide)
    have x5 : I2 320 = I1 320 := h5.1 320 (by decide)
    have x0 : I2 320 = I 320 := x5.trans (n1 320 (by decide))
    have z0 : re 73 = sdN I ri := by rw [z5, z4, z3, z2, z1]; exact n73
    have y0 : re 74 = reN I ri := by rw [y5, y4, y3, y2, y1]; exact n74
    by_cases q : I2 322 ≤ 0
    · rw [if_pos q, g_X10_goBy_K174_e]
      simp only [↓ap1_n]
      refine ⟨?_, z0, y0⟩
      show va_up I2 320 (I2 320 + 1) 320 = I 320 + 1
      rw [va_up_self, x0]
    · rw [if_neg q]
      refine bV_of g_X3_line_331_f (fun _ _ rf _ _ h6 => ?_)
      refine bI_of g_X0_onRings_f (fun _ _ _ rg _ _ h7 => ?_)
      refine bI_of g_X3_whoIsSo_f (fun _ _ _ rh _ _ h8 => ?_)
      refine bV_of g_X0_board_331_f (fun _ _ rk _ _ h9 => ?_)
      have z6 : rf 73 = re 73 := h6.2.2.1 73 (by decide)
      have y6 : rf 74 = re 74 := h6.2.2.1 74 (by decide)
      have z8 : rh 73 = rf 73 := h8.2.2.1 73 (by decide)
      have y8 : rh 74 = rf 74 := h8.2.2.1 74 (by decide)
      have z9 : rk 73 = rh 73 := h9.2.2.1 73 (by decide)
      have y9 : rk 74 = rh 74 := h9.2.2.1 74 (by decide)
      rw [g_X10_goBy_K174_e]
      simp only [↓ap1_n]
      refine ⟨?_, ((z9.trans z8).trans z6).trans z0, ((y9.trans y8).trans y6).trans y0⟩
      show va_up I2 320 (I2 320 + 1) 320 = I 320 + 1
      rw [va_up_self, x0]
  have hF : FRG id w_X10_goBy (I, J, ri, rj, rq) (g_X10_goBy tI tR a0 I J ri rj rq) := g_X10_goBy_f
  generalize g_X10_goBy tI tR a0 I J ri rj rq = b at hG hF ⊢
  obtain ⟨I2, J2, r2, l2, q2⟩ := b
  have hq : q2 = rq := funext fun t => hF.2.2.2.2 t (fun x => by have y : t ∈ ([] : List Nat) := x; cases y)
  have D1 : ∀ f, f ∈ [64, 65, 224, 234, 235, 236] → f ∉ w_X10_goBy.1 := by decide
  have D2 : ∀ t, t ∈ [69, 70, 75, 79, 225, 226, 227, 228, 229, 230, 231, 232] → t ∉ w_X10_goBy.2.2.1 := by decide
  exact ⟨I2, J2, r2, l2, by rw [hq], fun f hf => hF.1 f (D1 f hf), hG.1, hG.2.1, hG.2.2, fun t ht => hF.2.2.1 t (D2 t ht)⟩
/-- what lies between: both sides' -/
def bt (a b c : Int32) : Int32 := if a < b then 0 else if c < a then 0 else 1
theorem between_b {a b c : Int32} : g_X11_between a b c = bt a b c := of_eq_true (eq_self (bt a b c))
theorem isIn_b {a b c : Int32} : g_X12_isIn a b c = bt a b c := of_eq_true (eq_self (bt a b c))
theorem isRise_c {a : Int32} : g_X11_isRise a = bt a 0 2 := of_eq_true (eq_self (bt a 0 2))
theorem isRise_m {a : Int32} : g_X12_isRise a = bt a 0 2 := of_eq_true (eq_self (bt a 0 2))
theorem isMonth_c {a : Int32} : g_X11_isMonth a = bt a 0 599 := of_eq_true (eq_self (bt a 0 599))
theorem isMonth_m {a : Int32} : g_X12_isMonth a = bt a 0 599 := of_eq_true (eq_self (bt a 0 599))
theorem isCell_c {a : Int32} : g_X11_isCell a I J ri rj rq = (bt a 0 (I 65 - 1), I, J, ri, rj, rq) := rfl
theorem isCell_m {a : Int32} : g_X12_isCell a I J ri rj rq = (bt a 0 (ri 384 2 - 1), I, J, ri, rj, rq) := rfl
theorem isRing_c {a : Int32} : g_X11_isRing a I J ri rj rq = (bt a 0 (I 64 - 1), I, J, ri, rj, rq) := rfl
theorem isRing_m {a : Int32} : g_X12_isRing a I J ri rj rq = (bt a 0 (ri 384 1 - 1), I, J, ri, rj, rq) := rfl
theorem bt_n {a b c : Int32} (h : bt a b c ≠ 0) : b.toInt ≤ a.toInt ∧ a.toInt ≤ c.toInt := by
  unfold bt at h
  by_cases q : a < b
  · rw [if_pos q] at h; exact absurd rfl h
  · rw [if_neg q] at h
    by_cases p : c < a
    · rw [if_pos p] at h; exact absurd rfl h
    · exact ⟨Int32.le_iff_toInt_le.mp (Int32.not_lt.mp q), Int32.le_iff_toInt_le.mp (Int32.not_lt.mp p)⟩
theorem bt_y {a b c : Int32} (h1 : b.toInt ≤ a.toInt) (h2 : a.toInt ≤ c.toInt) : bt a b c = 1 := by
  unfold bt
  rw [if_neg (Int32.not_lt.mpr (Int32.le_iff_toInt_le.mpr h1)), if_neg (Int32.not_lt.mpr (Int32.le_iff_toInt_le.mpr h2))]
theorem bt_cell {a n : Int32} (h0 : 0 ≤ n.toInt) (h4 : n.toInt ≤ 40) (h : bt a 0 (n - 1) ≠ 0) : 0 ≤ a.toInt ∧ a.toInt < n.toInt := by
  have x := bt_n h
  have k0 : (0 : Int32).toInt = 0 := by decide
  have e : (n - 1).toInt = n.toInt - 1 := i_sub rfl (show (1 : Int32).toInt = 1 by decide) (by omega) (by omega)
  omega
theorem canTime {a0 a1 : Int32} (h : RSL I ri (si 384)) : ∃ v : Int32, g_X11_canGoBy a1 a0 60 I J ri rj rq = (v, I, J, ri, rj, rq) ∧ g_X12_isTime a0 60 a1 U V si sj sq = (v, U, V, si, sj, sq) ∧ (v ≠ 0 → 0 ≤ a1.toInt ∧ a1.toInt ≤ 2 ∧ 1 ≤ a0.toInt ∧ a0.toInt ≤ 60 ∧ (I 320).toInt + a0.toInt ≤ 600) := by
  obtain ⟨⟨⟨m0, m6⟩, _, _⟩, _, ⟨e0, _⟩, _⟩ := h
  have k0 : (0 : Int32).toInt = 0 := by decide
  have k1 : (1 : Int32).toInt = 1 := by decide
  have k2 : (2 : Int32).toInt = 2 := by decide
  have k60 : (60 : Int32).toInt = 60 := by decide
  have k600 : (600 : Int32).toInt = 600 := by decide
  rw [g_X11_canGoBy_e, g_X12_isTime_e]
  simp only [↓ap1_n, between_b, isIn_b, isRise_c, isRise_m, g_X11_canGoBy_K35, g_X12_isTime_K34]
  rw [← e0]
  by_cases q1 : bt a1 0 2 = 0
  · simp only [if_pos q1]
    refine ⟨0, rfl, ?_, fun y => absurd rfl y⟩
    by_cases q2 : bt a0 1 60 = 0
    · simp only [if_pos q2]
    · simp only [if_neg q2]
  · by_cases q2 : bt a0 1 60 = 0
    · simp only [if_neg q1, if_pos q2]
      exact ⟨0, rfl, rfl, fun y => absurd rfl y⟩
    · have b1 := bt_n q1
      have b2 := bt_n q2
      have es : (I 320 + a0).toInt = (I 320).toInt + a0.toInt := i_add rfl rfl (by omega) (by omega)
      by_cases q3 : (600 : Int32) < I 320 + a0
      · simp only [if_neg q1, if_neg q2, if_pos q3]
        exact ⟨0, rfl, rfl, fun y => absurd rfl y⟩
      · have d := Int32.le_iff_toInt_le.mp (Int32.not_lt.mp q3)
        simp only [if_neg q1, if_neg q2, if_neg q3]
        exact ⟨1, rfl, rfl, fun _ => ⟨by omega, by omega, by omega, by omega, by omega⟩⟩
theorem months_l {tI : Nat → Nat → Int32} {tR : Nat → Nat → Nat → Int32} {a0 a1 : Int32} (h60 : a0.toInt ≤ 60) : ∀ (n : Nat) (x : Int32) (I : Nat → Int32) (J : Nat → Int64) (ri : Nat → Nat → Int32) (rj : Nat → Nat → Int64) (U : Nat → Int32) (si : Nat → Nat → Int32) (sj : Nat → Nat → Int64), 0 ≤ x.toInt → x.toInt ≤ a0.toInt → (60 - x.toInt).toNat < n → (I 320).toInt + (a0.toInt - x.toInt) ≤ 600 → RSL I ri (si 384) → ∃ (I1 : Nat → Int32) (J1 : Nat → Int64) (r1 : Nat → Nat → Int32) (l1 : Nat → Nat → Int64) (U1 : Nat → Int32) (s1 : Nat → Nat → Int32) (m1 : Nat → Nat → Int64), g_X11_months_L15 a0 a1 rq tI tR n x I J ri rj = (I1 320, I1, J1, r1, l1, rq) ∧ g_X12_months_L15 a0 a1 V sq n x U si sj = (s1 384 0, U1, V, s1, m1, sq) ∧ RSL I1 r1 (s1 384) ∧ (∀ t, t ∉ [384, 405, 409, 411, 412] → s1 t = si t) ∧ zk (si 384) (s1 384) := by
  intro n
  induction n with
  | zero => intro x _ _ _ _ _ _ _ _ _ h; exact absurd h (Nat.not_lt_zero _)
  | succ n ih =>
    intro x I J ri rj U si sj h1 h2 h3 h4 h
    rw [g_X11_months_L15_e, g_X12_months_L15_e]
    by_cases d : a0 ≤ x
    · simp only [if_pos d, ↓ap1_n]
      exact ⟨I, J, ri, rj, U, si, sj, rfl, by rw [show (0 : Int32).toNatClampNeg = 0 from by decide], h, fun _ _ => rfl, fun _ _ => Iff.rfl, rfl⟩
    · have d1 := Int32.lt_iff_toInt_lt.mp (Int32.not_le.mp d)
      have e := t1_inc (x := x) (by omega) (by omega)
      simp only [if_neg d, ↓ap1_n]
      obtain ⟨I1, J1, r1, l1, e1, f1, f2, f3, f4, f5⟩ := goBy_v (I := I) (J := J) (ri := ri) (rj := rj) (rq := rq) (tI := tI) (tR := tR) (a0 := a1) h.1 (by omega)
      obtain ⟨U1, s1, m1, e2, o2, z0, z4, z5, z12, zo, zk1⟩ := month_v (U := U) (V := V) (sj := sj) (sq := sq) (a0 := a1) h (by omega)
      rw [e1, e2, bnV_mk, bnV_mk]
      have n0 := h.1.1.1
      have q0 : (I 320 + 1).toInt = (I 320).toInt + 1 := t1_one (by omega) (by omega)
      obtain ⟨I2, J2, r2, l2, U2, s2, m2, c1, c2, c3, c4, c5⟩ := ih (x + Int32.ofInt 1) I1 J1 r1 l1 U1 s1 m1 (by omega) (by omega) (by omega) (by rw [f2, q0]; omega) (RL_month (a0 := a1) h (by omega) f1 f2 f3 f4 f5 z0 z4 z5 zo)
      exact ⟨I2, J2, r2, l2, U2, s2, m2, c1, c2, c3, fun t ht => (c4 t ht).trans (o2 t ht), fun p hp => (c5.1 p hp).trans (zk1.1 p hp), c5.2.trans zk1.2⟩
theorem months_v {tI : Nat → Nat → Int32} {tR : Nat → Nat → Nat → Int32} {a0 a1 : Int32} (h : RSL I ri (si 384)) : ∃ (v : Int32) (I1 : Nat → Int32) (J1 : Nat → Int64) (r1 : Nat → Nat → Int32) (l1 : Nat → Nat → Int64) (U1 : Nat → Int32) (s1 : Nat → Nat → Int32) (m1 : Nat → Nat → Int64), g_X11_months tI tR a0 a1 I J ri rj rq = (v, I1, J1, r1, l1, rq) ∧ g_X12_months a0 a1 U V si sj sq = (v, U1, V, s1, m1, sq) ∧ RSL I1 r1 (s1 384) ∧ (∀ t, t ∉ [384, 405, 409, 411, 412] → s1 t = si t) ∧ zk (si 384) (s1 384) := by
  obtain ⟨v, c1, c2, c3⟩ := canTime (a0 := a0) (a1 := a1) (J := J) (rj := rj) (rq := rq) (U := U) (V := V) (sj := sj) (sq := sq) h
  rw [g_X11_months_e, g_X12_months_e, c1, c2, bnI_mk, bnI_mk]
  by_cases q : v = 0
  · simp only [if_pos q]
    exact ⟨-1, I, J, ri, rj, U, si, sj, rfl, rfl, h, fun _ _ => rfl, fun _ _ => Iff.rfl, rfl⟩
  · simp only [if_neg q]
    obtain ⟨b1, b2, b3, b4, b5⟩ := c3 q
    have k0 : (0 : Int32).toInt = 0 := by decide
    obtain ⟨I1, J1, r1, l1, U1, s1, m1, d1, d2, d3, d4⟩ := months_l (rq := rq) (V := V) (sq := sq) (tI := tI) (tR := tR) (a0 := a0) (a1 := a1) b4 ((60 - (0 : Int32).toInt).toNat + 1) 0 I J ri rj U si sj (by omega) (by omega) (by omega) (by omega) h
    refine ⟨I1 320, I1, J1, r1, l1, U1, s1, m1, d1, ?_, d3, d4⟩
    rw [d2, d3.2.2.1.1]
end PU11
/-! ===== pure: the calls that lay SEAS and LAND, on both sides ===== -/
section PU12
variable {I : Nat → Int32} {J : Nat → Int64} {ri : Nat → Nat → Int32} {rj : Nat → Nat → Int64} {rq : Nat → Nat → Option Nat}
variable {U : Nat → Int32} {V : Nat → Int64} {si : Nat → Nat → Int32} {sj : Nat → Nat → Int64} {sq : Nat → Nat → Option Nat}
variable {A A1 : Nat → Int32} {r1 : Nat → Nat → Int32} {I1 : Nat → Int32}
/-- the same answer, and SEAS and LAND stand alike -/
def CV (b c : Int32 × vM) : Prop := b.1 = c.1 ∧ RSL b.2.1 b.2.2.2.1 (c.2.2.2.1 384)
theorem cv_no {v : Int32} (h : RSL I ri (si 384)) : CV (v, I, J, ri, rj, rq) (v, U, V, si, sj, sq) := ⟨rfl, h⟩
/-- what RSL hangs on -/
abbrev rlz : List Nat := [0, 1, 2, 3, 13, 14, 15, 500, 501, 502, 503, 504, 100, 101, 102, 103, 300, 301, 304, 305, 306]
theorem zn_t {j k : Nat} (hj : j < 12) (hk : k < 5) : zn (20 + 5 * j + k) = 100 + k := by
  unfold zn
  rw [if_neg (by omega), if_pos (by omega)]
  omega
theorem zn_c {c k : Nat} (hc : c < 40) (hk : k < 16) : zn (100 + 16 * c + k) = 300 + k := by
  unfold zn
  rw [if_neg (by omega), if_neg (by omega), if_neg (by omega), if_neg (by omega), if_pos (by omega)]
  omega
theorem zn_l {o k : Nat} (hk : k < 200) (ho : o < 5) : zn (1220 + o + 5 * k) = 500 + o := by
  unfold zn
  rw [if_neg (by omega), if_neg (by omega), if_neg (by omega), if_neg (by omega), if_neg (by omega), if_neg (by omega), if_pos (by omega)]
  omega
theorem RL_cg (h : RSL I ri A) (hI : ∀ f, f ∈ [64, 65, 224, 234, 235, 236, 320] → I1 f = I f) (h2 : ∀ t, t ∈ [225, 226, 227, 228] → ∀ j, j < 200 → r1 t j = ri t j) (hT : ∀ t, t ∈ [229, 230, 231, 232] → ∀ j, j < 12 → r1 t j = ri t j) (h4 : ∀ t, t ∈ [69, 70, 73, 74, 75, 79] → ∀ j, j < 40 → r1 t j = ri t j) (hA : ∀ i, zn i ∈ rlz → A1 i = A i) (hM : RMX A1) : RSL I1 r1 A1 := by
  obtain ⟨⟨⟨m0, m6⟩, ⟨c0, c4⟩, ⟨l0, l2⟩⟩, _, ⟨e0, e1, e2, e3⟩, hlv, ⟨htb, hb, hg, hd⟩, hld, ⟨hn, hn2⟩⟩ := h
  have z65 := clampE (I 65)
  have z224 := clampE (I 224)
  have aT : ∀ j k, j < 12 → k < 4 → A1 (20 + 5 * j + k) = A (20 + 5 * j + k) := fun j k hj hk => hA _ (by rw [zn_t hj (by omega)]; exact (by decide : ∀ k, k < 4 → 100 + k ∈ rlz) k hk)
  have aC : ∀ c k, c < 40 → k ∈ [0, 1, 4, 5, 6] → A1 (100 + 16 * c + k) = A (100 + 16 * c + k) := fun c k hc hk => hA _ (by rw [zn_c hc ((by decide : ∀ k, k ∈ [0, 1, 4, 5, 6] → k < 16) k hk)]; exact (by decide : ∀ k, k ∈ [0, 1, 4, 5, 6] → 300 + k ∈ rlz) k hk)
  have aL : ∀ o k, k < 200 → o < 5 → A5 A1 o k = A5 A o k := fun o k hk ho => hA (1220 + o + 5 * k) (by rw [zn_l hk ho]; exact (by decide : ∀ o, o < 5 → 500 + o ∈ rlz) o ho)
  refine ⟨⟨?_, ?_, ?_⟩, hM, ⟨?_, ?_, ?_, ?_⟩, ?_, ⟨fun j hj => ?_, ?_, ?_, ?_⟩, fun c hc => ?_, ?_, fun j h1 h2 => ?_⟩
  · rw [hI 320 (by decide)]; exact ⟨m0, m6⟩
  · rw [hI 65 (by decide)]; exact ⟨c0, c4⟩
  · rw [hI 224 (by decide)]; exact ⟨l0, l2⟩
  · rw [hI 320 (by decide), hA 0 (by decide)]; exact e0
  · rw [hI 64 (by decide), hA 1 (by decide)]; exact e1
  · rw [hI 65 (by decide), hA 2 (by decide)]; exact e2
  · rw [hI 224 (by decide), hA 3 (by decide)]; exact e3
  · show LVR _ _ _ _ _ _ _ _ _ _
    rw [hI 224 (by decide)]
    intro k hk
    rw [aL 0 k (by omega) (by decide), aL 1 k (by omega) (by decide), aL 2 k (by omega) (by decide), aL 3 k (by omega) (by decide), aL 4 k (by omega) (by decide), h2 225 (by decide) k (by omega), h2 226 (by decide) k (by omega), h2 227 (by decide) k (by omega), h2 228 (by decide) k (by omega)]
    exact hlv k hk
  · rw [hT 229 (by decide) j hj, hT 230 (by decide) j hj, hT 231 (by decide) j hj, hT 232 (by decide) j hj, aT j 0 hj (by decide), aT j 1 hj (by decide), aT j 2 hj (by decide), aT j 3 hj (by decide)]
    exact htb j hj
  · rw [hI 234 (by decide), hA 13 (by decide)]; exact hb
  · rw [hI 235 (by decide), hA 14 (by decide)]; exact hg
  · rw [hI 236 (by decide), hA 15 (by decide)]; exact hd
  · have x0 := aC c 0 hc (by decide)
    rw [Nat.add_zero] at x0
    rw [x0, aC c 1 hc (by decide), aC c 4 hc (by decide), aC c 5 hc (by decide), aC c 6 hc (by decide), h4 69 (by decide) c hc, h4 70 (by decide) c hc, h4 73 (by decide) c hc, h4 74 (by decide) c hc, h4 75 (by decide) c hc]
    exact hld c hc
  · rw [hI 65 (by decide)]
    intro c hc
    rw [h4 79 (by decide) c (by omega)]
    rcases hn c hc with ⟨a, b⟩ | ⟨k, k1, k2, k3, k4, k5⟩
    · exact Or.inl ⟨a, fun k h1 h2 => by rw [h4 69 (by decide) k (by omega), h4 69 (by decide) c (by omega)]; exact b k h1 h2⟩
    · refine Or.inr ⟨k, k1, k2, ?_, fun i i1 i2 => ?_, k5⟩
      · rw [h4 69 (by decide) k (by omega), h4 69 (by decide) c (by omega)]; exact k3
      · rw [h4 69 (by decide) i (by omega), h4 69 (by decide) c (by omega)]; exact k4 i i1 i2
  · rw [hI 65 (by decide)] at h1
    rw [h4 79 (by decide) j h2]
    exact hn2 j h1 h2
/-- a LEVEL is told -/
theorem RL_tell {a0 a1 x f w : Int32} (h : RSL I ri A) (d : (I 224).toInt < 200) (r5 : r1 225 = upd (ri 225) (I 224).toNatClampNeg a0) (r6 : r1 226 = upd (ri 226) (I 224).toNatClampNeg a1) (r7 : r1 227 = upd (ri 227) (I 224).toNatClampNeg x) (r8 : r1 228 = upd (ri 228) (I 224).toNatClampNeg (I 320)) (ro : ∀ t, t ∉ [225, 226, 227, 228] → r1 t = ri t) (b0 : A1 (1220 + 5 * (I 224).toNatClampNeg) = a0) (b1 : A1 (1220 + 1 + 5 * (I 224).toNatClampNeg) = a1) (b2 : A1 (1220 + 2 + 5 * (I 224).toNatClampNeg) = f) (b3 : A1 (1220 + 3 + 5 * (I 224).toNatClampNeg) = w) (b4 : A1 (1220 + 4 + 5 * (I 224).toNatClampNeg) = A 0) (b5 : A1 3 = A 3 + 1) (bo : ∀ i, i ≠ 3 → (i < 1220 + 5 * (I 224).toNatClampNeg ∨ 1220 + 5 * (I 224).toNatClampNeg + 5 ≤ i) → A1 i = A i) (hx : (f.toInt = 0 ∧ x.toInt = -5000) ∨ (f.toInt = 1 ∧ x = w ∧ -1000 ≤ w.toInt ∧ w.toInt ≤ 5000)) : RSL (va_up I 224 (I 224 + 1)) r1 A1 := by
  obtain ⟨⟨hm, hc, ⟨l0, l2⟩⟩, hmx, ⟨e0, e1, e2, e3⟩, hlv, ⟨htb, hb, hg, hd⟩, hld, hnx⟩ := h
  have q : (I 224 + 1).toInt = (I 224).toInt + 1 := t1_one (by omega) (by omega)
  have z := clampE (I 224)
  have z1 := clampE (I 224 + 1)
  have N1 : (I 224 + 1).toNatClampNeg = (I 224).toNatClampNeg + 1 := by omega
  have o : ∀ {f : Nat}, f ≠ 224 → va_up I 224 (I 224 + 1) f = I f := fun hf => va_up_ne _ _ hf
  have s224 : va_up I 224 (I 224 + 1) 224 = I 224 + 1 := va_up_self _ _ _
  refine ⟨⟨?_, ?_, ?_⟩, ?_, ⟨?_, ?_, ?_, ?_⟩, ?_, ⟨?_, ?_, ?_, ?_⟩, ?_, ?_⟩
  · rw [o (show (320 : Nat) ≠ 224 by decide)]; exact hm
  · rw [o (show (65 : Nat) ≠ 224 by decide)]; exact hc
  · rw [s224, q]; exact ⟨by omega, by omega⟩
  · show (0 ≤ (A1 1).toInt ∧ (A1 1).toInt ≤ 5) ∧ (0 ≤ (A1 5).toInt ∧ (A1 5).toInt ≤ 40) ∧ (A1 4).toInt ≤ 5
    rw [bo 1 (by decide) (Or.inl (by omega)), bo 5 (by decide) (Or.inl (by omega)), bo 4 (by decide) (Or.inl (by omega))]; exact hmx
  · rw [o (show (320 : Nat) ≠ 224 by decide), bo 0 (by decide) (Or.inl (by omega))]; exact e0
  · rw [o (show (64 : Nat) ≠ 224 by decide), bo 1 (by decide) (Or.inl (by omega))]; exact e1
  · rw [o (show (65 : Nat) ≠ 224 by decide), bo 2 (by decide) (Or.inl (by omega))]; exact e2
  · rw [s224, b5, e3]
  · show LVR _ _ _ _ _ _ _ _ _ _
    rw [s224, N1, r5, r6, r7, r8]
    intro k hk
    by_cases w1 : k = (I 224).toNatClampNeg
    · subst w1
      rw [upd_s, upd_s, upd_s, upd_s]
      have c0 : A5 A1 0 (I 224).toNatClampNeg = a0 := b0
      have c1 : A5 A1 1 (I 224).toNatClampNeg = a1 := b1
      have c2 : A5 A1 2 (I 224).toNatClampNeg = f := b2
      have c3 : A5 A1 3 (I 224).toNatClampNeg = w := b3
      have c4 : A5 A1 4 (I 224).toNatClampNeg = A 0 := b4
      rw [c0, c1, c2, c3, c4]
      exact ⟨rfl, rfl, e0, hx⟩
    · have hk2 : k < (I 224).toNatClampNeg := by omega
      have a5 : ∀ o, o ≤ 4 → A5 A1 o k = A5 A o k := fun o ho => bo _ (by omega) (Or.inl (by omega))
      rw [upd_n _ _ w1, upd_n _ _ w1, upd_n _ _ w1, upd_n _ _ w1, a5 0 (by decide), a5 1 (by decide), a5 2 (by decide), a5 3 (by decide), a5 4 (by decide)]
      exact hlv k hk2
  · intro j hj
    rw [ro 229 (by decide), ro 230 (by decide), ro 231 (by decide), ro 232 (by decide), bo _ (by omega) (Or.inl (by omega)), bo _ (by omega) (Or.inl (by omega)), bo _ (by omega) (Or.inl (by omega)), bo _ (by omega) (Or.inl (by omega))]
    exact htb j hj
  · rw [o (show (234 : Nat) ≠ 224 by decide), bo 13 (by decide) (Or.inl (by omega))]; exact hb
  · rw [o (show (235 : Nat) ≠ 224 by decide), bo 14 (by decide) (Or.inl (by omega))]; exact hg
  · rw [o (show (236 : Nat) ≠ 224 by decide), bo 15 (by decide) (Or.inl (by omega))]; exact hd
  · intro c hc
    rw [bo _ (by omega) (Or.inl (by omega)), bo _ (by omega) (Or.inl (by omega)), bo _ (by omega) (Or.inl (by omega)), bo _ (by omega) (Or.inl (by omega)), bo _ (by omega) (Or.inl (by omega)), ro 69 (by decide), ro 70 (by decide), ro 73 (by decide), ro 74 (by decide), ro 75 (by decide)]
    exact hld c hc
  · show NXT _ _ _ ∧ _
    rw [o (show (65 : Nat) ≠ 224 by decide), ro 79 (by decide), ro 69 (by decide)]
    exact hnx
theorem level_CV {a0 a1 a2 a3 : Int32} (h : RSL I ri (si 384)) : CV (g_X11_level a0 a1 a2 a3 I J ri rj rq) (g_X12_level a0 a1 a2 a3 U V si sj sq) := by
  have h' := h
  obtain ⟨⟨hm, hc, ⟨l0, l2⟩⟩, hmx, ⟨e0, e1, e2, e3⟩, _⟩ := h'
  have k200 : (200 : Int32).toInt = 200 := by decide
  have k3 : (3 : Int32).toNatClampNeg = 3 := by decide
  have told : (a2 = 0 ∨ (-1000 ≤ a3.toInt ∧ a3.toInt ≤ 5000)) → CV (g_X11_level_K34 a0 a1 a2 a3 I J ri rj rq) (g_X12_level_K32 a0 a1 a2 a3 U V si sj sq) := fun hv => by
    rw [g_X11_level_K34_e, g_X12_level_K32_e]
    simp only [↓ap1_n, k3]
    by_cases d : I 224 < 200
    · have d1 := Int32.lt_iff_toInt_lt.mp d
      have d2 : ¬ si 384 3 = 200 := fun y => by rw [← e3] at y; rw [y] at d1; omega
      have i0 := ixl (c := si 384 3) (k := 1) 1 (by decide) (by decide) (by rw [← e3]; omega) (by rw [← e3]; omega)
      have i2 := ixl (c := si 384 3) (k := 2) 2 (by decide) (by decide) (by rw [← e3]; omega) (by rw [← e3]; omega)
      have i3 := ixl (c := si 384 3) (k := 3) 3 (by decide) (by decide) (by rw [← e3]; omega) (by rw [← e3]; omega)
      have i4 := ixl (c := si 384 3) (k := 4) 4 (by decide) (by decide) (by rw [← e3]; omega) (by rw [← e3]; omega)
      rw [← e3] at i0 i2 i3 i4 d2
      have c : ∀ x : Int32, g_X11_level_K73 a0 a1 I J ri rj rq x = (I 224 + 1, va_up I 224 (I 224 + 1), J, va_up (va_up (va_up (va_up ri 225 (upd (ri 225) (I 224).toNatClampNeg a0)) 226 (upd (ri 226) (I 224).toNatClampNeg a1)) 227 (upd (ri 227) (I 224).toNatClampNeg x)) 228 (upd (ri 228) (I 224).toNatClampNeg (I 320)), rj, rq) := fun x => by
        rw [g_X11_level_K73_e]
        simp only [↓ap1_n]
        rw [g_X7_tell_e]
        simp only [↓ap1_n]
        rw [if_pos d, bnI_mk, va_up_self, va_up_ne _ _ (show (226 : Nat) ≠ 225 by decide), va_up_ne _ _ (show (227 : Nat) ≠ 226 by decide), va_up_ne _ _ (show (227 : Nat) ≠ 225 by decide), va_up_ne _ _ (show (228 : Nat) ≠ 227 by decide), va_up_ne _ _ (show (228 : Nat) ≠ 226 by decide), va_up_ne _ _ (show (228 : Nat) ≠ 225 by decide)]
      have rr : ∀ x : Int32, ∀ R, R = va_up (va_up (va_up (va_up ri 225 (upd (ri 225) (I 224).toNatClampNeg a0)) 226 (upd (ri 226) (I 224).toNatClampNeg a1)) 227 (upd (ri 227) (I 224).toNatClampNeg x)) 228 (upd (ri 228) (I 224).toNatClampNeg (I 320)) → R 225 = upd (ri 225) (I 224).toNatClampNeg a0 ∧ R 226 = upd (ri 226) (I 224).toNatClampNeg a1 ∧ R 227 = upd (ri 227) (I 224).toNatClampNeg x ∧ R 228 = upd (ri 228) (I 224).toNatClampNeg (I 320) ∧ ∀ t, t ∉ [225, 226, 227, 228] → R t = ri t := fun x R hR => by
        subst hR
        refine ⟨?_, ?_, ?_, ?_, fun t ht => ?_⟩
        · rw [va_up_ne _ _ (show (225 : Nat) ≠ 228 by decide), va_up_ne _ _ (show (225 : Nat) ≠ 227 by decide), va_up_ne _ _ (show (225 : Nat) ≠ 226 by decide), va_up_self]
        · rw [va_up_ne _ _ (show (226 : Nat) ≠ 228 by decide), va_up_ne _ _ (show (226 : Nat) ≠ 227 by decide), va_up_self]
        · rw [va_up_ne _ _ (show (227 : Nat) ≠ 228 by decide), va_up_self]
        · rw [va_up_self]
        · simp only [List.mem_cons, List.not_mem_nil, or_false, not_or] at ht
          rw [va_up_ne _ _ ht.2.2.2, va_up_ne _ _ ht.2.2.1, va_up_ne _ _ ht.2.1, va_up_ne _ _ ht.1]
      have m : ∀ (f w : Int32) (B : Nat → Int32), B = upd (upd (upd (upd (upd (upd (si 384) (1220 + 5 * (I 224).toNatClampNeg) a0) (1220 + 1 + 5 * (I 224).toNatClampNeg) a1) (1220 + 2 + 5 * (I 224).toNatClampNeg) f) (1220 + 3 + 5 * (I 224).toNatClampNeg) w) (1220 + 4 + 5 * (I 224).toNatClampNeg) (si 384 0)) 3 (I 224 + 1) → B (1220 + 5 * (I 224).toNatClampNeg) = a0 ∧ B (1220 + 1 + 5 * (I 224).toNatClampNeg) = a1 ∧ B (1220 + 2 + 5 * (I 224).toNatClampNeg) = f ∧ B (1220 + 3 + 5 * (I 224).toNatClampNeg) = w ∧ B (1220 + 4 + 5 * (I 224).toNatClampNeg) = si 384 0 ∧ B 3 = si 384 3 + 1 ∧ ∀ i, i ≠ 3 → (i < 1220 + 5 * (I 224).toNatClampNeg ∨ 1220 + 5 * (I 224).toNatClampNeg + 5 ≤ i) → B i = si 384 i := fun f w B hB => by
        subst hB
        refine ⟨?_, ?_, ?_, ?_, ?_, ?_, fun i h3 hi => ?_⟩
        · rw [upd_n _ _ (by omega), upd_n _ _ (by omega), upd_n _ _ (by omega), upd_n _ _ (by omega), upd_n _ _ (by omega), upd_s]
        · rw [upd_n _ _ (by omega), upd_n _ _ (by omega), upd_n _ _ (by omega), upd_n _ _ (by omega), upd_s]
        · rw [upd_n _ _ (by omega), upd_n _ _ (by omega), upd_n _ _ (by omega), upd_s]
        · rw [upd_n _ _ (by omega), upd_n _ _ (by omega), upd_s]
        · rw [upd_n _ _ (by omega), upd_s]
        · rw [upd_s, e3]
        · rw [upd_n _ _ h3, upd_n _ _ (by omega), upd_n _ _ (by omega), upd_n _ _ (by omega), upd_n _ _ (by omega), upd_n _ _ (by omega)]
      have fin : ∀ (x f w : Int32), ((f.toInt = 0 ∧ x.toInt = -5000) ∨ (f.toInt = 1 ∧ x = w ∧ -1000 ≤ w.toInt ∧ w.toInt ≤ 5000)) → CV (g_X11_level_K73 a0 a1 I J ri rj rq x) (I 224 + 1, U, V, va_up si 384 (upd (upd (upd (upd (upd (upd (si 384) (1220 + 5 * (I 224).toNatClampNeg) a0) (1220 + 1 + 5 * (I 224).toNatClampNeg) a1) (1220 + 2 + 5 * (I 224).toNatClampNeg) f) (1220 + 3 + 5 * (I 224).toNatClampNeg) w) (1220 + 4 + 5 * (I 224).toNatClampNeg) (si 384 0)) 3 (I 224 + 1)), sj, sq) := fun x f w hx => by
        rw [c x]
        refine ⟨rfl, ?_⟩
        show RSL (va_up I 224 (I 224 + 1)) _ (va_up si 384 _ 384)
        rw [va_up_self]
        obtain ⟨p1, p2, p3, p4, p5⟩ := rr x _ rfl
        obtain ⟨b0, b1, b2, b3, b4, b5, b6⟩ := m f w _ rfl
        exact RL_tell h (by omega) p1 p2 p3 p4 p5 b0 b1 b2 b3 b4 b5 b6 hx
      simp only [if_pos d, ← e3, if_neg d2]
      by_cases q : a2 = 0
      · simp only [if_pos q, g_X12_level_K95, g_X12_level_K114, ↓ap1_n, va_up_self, up_up, k3, i0.1, i0.2.1, i2.1, i3.1, i4.1]
        exact fin (-5000) 0 0 (Or.inl ⟨by decide, by decide⟩)
      · simp only [if_neg q, g_X12_level_K95_2, g_X12_level_K114_2, ↓ap1_n, va_up_self, up_up, k3, i0.1, i0.2.1, i2.1, i3.1, i4.1]
        exact fin a3 1 a3 (Or.inr ⟨by decide, rfl, hv.resolve_left q⟩)
    · have d1 := Int32.le_iff_toInt_le.mp (Int32.not_lt.mp d)
      have d2 : si 384 3 = 200 := Int32.toInt_inj.mp (by rw [← e3]; omega)
      simp only [if_neg d, if_pos d2, g_X12_level_K44]
      exact cv_no h
  rw [g_X11_level_e, g_X12_level_e]
  simp only [↓ap1_n, isRise_c, isRise_m, isMonth_c, isMonth_m, between_b, isIn_b, g_X11_level_K32, g_X12_level_K44]
  by_cases q1 : bt a0 0 2 = 0
  · simp only [if_pos q1]; exact cv_no h
  · by_cases q2 : bt a1 0 599 = 0
    · simp only [if_neg q1, if_pos q2]; exact cv_no h
    · by_cases q3 : a2 = 0
      · simp only [if_neg q1, if_neg q2, if_pos q3]
        exact told (Or.inl q3)
      · by_cases q4 : bt a3 (-1000) 5000 = 0
        · simp only [if_neg q1, if_neg q2, if_neg q3]
          show CV (if bt a3 (-1000) 5000 = 0 then _ else _) (if bt a3 (-1000) 5000 = 0 then _ else _)
          rw [if_pos q4, if_pos q4]
          exact cv_no h
        · have b := bt_n q4
          have k1 : (-1000 : Int32).toInt = -1000 := by decide
          have k5 : (5000 : Int32).toInt = 5000 := by decide
          simp only [if_neg q1, if_neg q2, if_neg q3]
          show CV (if bt a3 (-1000) 5000 = 0 then _ else _) (if bt a3 (-1000) 5000 = 0 then _ else _)
          rw [if_neg q4, if_neg q4]
          exact told (Or.inr ⟨by omega, by omega⟩)
/-- a WALL -/
theorem RL_wall {a0 a1 : Int32} (h : RSL I ri A) (b0 : 0 ≤ a0.toInt) (b1 : a0.toInt ≤ 39) (b2 : 0 ≤ a1.toInt) : RSL I (va_up ri 75 (upd (ri 75) a0.toNatClampNeg a1)) (upd A (100 + 16 * a0.toNatClampNeg + 6) a1) := by
  obtain ⟨hn, hmx, ⟨e0, e1, e2, e3⟩, hlv, ⟨htb, hb, hg, hd⟩, hld, hnx⟩ := h
  have z := clampE a0
  have o : ∀ i, i ≠ 100 + 16 * a0.toNatClampNeg + 6 → upd A (100 + 16 * a0.toNatClampNeg + 6) a1 i = A i := fun i hi => upd_n _ _ hi
  have ro : ∀ {t : Nat}, t ≠ 75 → va_up ri 75 (upd (ri 75) a0.toNatClampNeg a1) t = ri t := fun ht => va_up_ne _ _ ht
  have zn := clampE (I 224)
  have hl2 := hn.2.2.2
  refine ⟨hn, ?_, ⟨?_, ?_, ?_, ?_⟩, ?_, ⟨fun j hj => ?_, ?_, ?_, ?_⟩, fun c hc => ?_, ?_⟩
  · show (0 ≤ (upd A _ a1 1).toInt ∧ (upd A _ a1 1).toInt ≤ 5) ∧ (0 ≤ (upd A _ a1 5).toInt ∧ (upd A _ a1 5).toInt ≤ 40) ∧ (upd A _ a1 4).toInt ≤ 5
    rw [o 1 (by omega), o 5 (by omega), o 4 (by omega)]; exact hmx
  · rw [o 0 (by omega)]; exact e0
  · rw [o 1 (by omega)]; exact e1
  · rw [o 2 (by omega)]; exact e2
  · rw [o 3 (by omega)]; exact e3
  · show LVR _ _ _ _ _ _ _ _ _ _
    rw [ro (show (225 : Nat) ≠ 75 by decide), ro (show (226 : Nat) ≠ 75 by decide), ro (show (227 : Nat) ≠ 75 by decide), ro (show (228 : Nat) ≠ 75 by decide)]
    intro k hk
    have a5 : ∀ p, A5 (upd A (100 + 16 * a0.toNatClampNeg + 6) a1) p k = A5 A p k := fun p => o (1220 + p + 5 * k) (by omega)
    rw [a5, a5, a5, a5, a5]
    exact hlv k hk
  · rw [ro (show (229 : Nat) ≠ 75 by decide), ro (show (230 : Nat) ≠ 75 by decide), ro (show (231 : Nat) ≠ 75 by decide), ro (show (232 : Nat) ≠ 75 by decide), o _ (by omega), o _ (by omega), o _ (by omega), o _ (by omega)]
    exact htb j hj
  · rw [o 13 (by omega)]; exact hb
  · rw [o 14 (by omega)]; exact hg
  · rw [o 15 (by omega)]; exact hd
  · rw [o _ (by omega), o _ (by omega), o _ (by omega), o _ (by omega), ro (show (69 : Nat) ≠ 75 by decide), ro (show (70 : Nat) ≠ 75 by decide), ro (show (73 : Nat) ≠ 75 by decide), ro (show (74 : Nat) ≠ 75 by decide), va_up_self]
    have x := hld c hc
    by_cases w : c = a0.toNatClampNeg
    · subst w
      rw [upd_s, upd_s]
      exact ⟨x.1, x.2.1, x.2.2.1, x.2.2.2.1, rfl, b2⟩
    · rw [upd_n _ _ w, o _ (by omega)]
      exact x
  · show NXT _ _ _ ∧ _
    rw [ro (show (79 : Nat) ≠ 75 by decide), ro (show (69 : Nat) ≠ 75 by decide)]
    exact hnx
theorem wall_CV {a0 a1 : Int32} (h : RSL I ri (si 384)) : CV (g_X11_wall a0 a1 I J ri rj rq) (g_X12_wall a0 a1 U V si sj sq) := by
  have h' := h
  obtain ⟨⟨hm, ⟨c0, c4⟩, hl⟩, hmx, ⟨e0, e1, e2, e3⟩, _⟩ := h'
  rw [g_X11_wall_e, g_X12_wall_e, isCell_c, isCell_m, bnI_mk, bnI_mk]
  simp only [↓ap1_n, between_b, isIn_b, g_X11_wall_K19, g_X12_wall_K19]
  rw [← e2]
  by_cases q1 : bt a0 0 (I 65 - 1) = 0
  · simp only [if_pos q1]; exact cv_no h
  · by_cases q2 : bt a1 0 1000 = 0
    · simp only [if_neg q1, if_pos q2]; exact cv_no h
    · have b1 := bt_cell c0 c4 q1
      have b2 := bt_n q2
      have k0 : (0 : Int32).toInt = 0 := by decide
      have i6 := ixk (c := a0) (k := 6) 6 (by decide) (by decide) (by omega) (by omega)
      simp only [if_neg q1, if_neg q2, i6]
      refine ⟨rfl, ?_⟩
      show RSL I (va_up ri 75 (upd (ri 75) a0.toNatClampNeg a1)) (va_up si 384 (upd (si 384) (100 + 16 * a0.toNatClampNeg + 6) a1) 384)
      rw [va_up_self]
      exact RL_wall h (by omega) (by omega) (by omega)
/-- a RING -/
theorem ring_CV (h : RSL I ri (si 384)) : CV (g_X11_ring I J ri rj rq) (g_X12_ring U V si sj sq) := by
  have h' := h
  obtain ⟨hn, ⟨⟨p0, p5⟩, o5⟩, ⟨e0, e1, e2, e3⟩, hlv, ⟨htb, hb, hg, hd⟩, hld, hnx⟩ := h'
  have k1 : (1 : Int32).toNatClampNeg = 1 := by decide
  have k5 : (5 : Int32).toInt = 5 := by decide
  rw [g_X11_ring_e, g_X12_ring_e]
  simp only [↓ap1_n, k1]
  rw [← e1] at p0 p5 ⊢
  by_cases d : I 64 < 5
  · have d1 := Int32.lt_iff_toInt_lt.mp d
    have d2 : ¬ I 64 = 5 := fun y => by rw [y] at d1; omega
    have q : (I 64 + 1).toInt = (I 64).toInt + 1 := t1_one (by omega) (by omega)
    simp only [if_pos d, if_neg d2, va_up_self]
    refine ⟨rfl, ?_⟩
    show RSL (va_up I 64 (I 64 + 1)) ri (va_up si 384 (upd (si 384) 1 (I 64 + 1)) 384)
    rw [va_up_self]
    have o : ∀ i, i ≠ 1 → upd (si 384) 1 (I 64 + 1) i = si 384 i := fun i hi => upd_n _ _ hi
    have oI : ∀ {f : Nat}, f ≠ 64 → va_up I 64 (I 64 + 1) f = I f := fun hf => va_up_ne _ _ hf
    refine ⟨?_, ?_, ⟨?_, ?_, ?_, ?_⟩, ?_, ⟨fun j hj => ?_, ?_, ?_, ?_⟩, fun c hc => ?_, ?_⟩
    · show (_ ∧ _) ∧ (_ ∧ _) ∧ _ ∧ _
      rw [oI (show (320 : Nat) ≠ 64 by decide), oI (show (65 : Nat) ≠ 64 by decide), oI (show (224 : Nat) ≠ 64 by decide)]; exact hn
    · show (0 ≤ (upd (si 384) 1 _ 1).toInt ∧ (upd (si 384) 1 _ 1).toInt ≤ 5) ∧ (0 ≤ (upd (si 384) 1 _ 5).toInt ∧ (upd (si 384) 1 _ 5).toInt ≤ 40) ∧ (upd (si 384) 1 _ 4).toInt ≤ 5
      rw [upd_s, o 5 (by decide), o 4 (by decide), q]; exact ⟨⟨by omega, by omega⟩, o5⟩
    · rw [oI (show (320 : Nat) ≠ 64 by decide), o 0 (by decide)]; exact e0
    · rw [va_up_self, upd_s]
    · rw [oI (show (65 : Nat) ≠ 64 by decide), o 2 (by decide)]; exact e2
    · rw [oI (show (224 : Nat) ≠ 64 by decide), o 3 (by decide)]; exact e3
    · show LVR _ _ _ _ _ _ _ _ _ _
      rw [oI (show (224 : Nat) ≠ 64 by decide)]
      intro k hk
      have a5 : ∀ p, A5 (upd (si 384) 1 (I 64 + 1)) p k = A5 (si 384) p k := fun p => o _ (by omega)
      rw [a5, a5, a5, a5, a5]
      exact hlv k hk
    · rw [o _ (by omega), o _ (by omega), o _ (by omega), o _ (by omega)]
      exact htb j hj
    · rw [oI (show (234 : Nat) ≠ 64 by decide), o 13 (by decide)]; exact hb
    · rw [oI (show (235 : Nat) ≠ 64 by decide), o 14 (by decide)]; exact hg
    · rw [oI (show (236 : Nat) ≠ 64 by decide), o 15 (by decide)]; exact hd
    · rw [o _ (by omega), o _ (by omega), o _ (by omega), o _ (by omega), o _ (by omega)]
      exact hld c hc
    · show NXT _ _ _ ∧ _
      rw [oI (show (65 : Nat) ≠ 64 by decide)]
      exact hnx
  · have d1 := Int32.le_iff_toInt_le.mp (Int32.not_lt.mp d)
    have d2 : I 64 = 5 := Int32.toInt_inj.mp (by omega)
    simp only [if_neg d, if_pos d2]
    exact cv_no h
end PU12
/-! ===== pure: a trial's copy; SINKS on both sides ===== -/
section PU13
variable {nI : Nat → Int32} {nJ : Nat → Int64} {nR : Nat → Nat → Int32} {nL : Nat → Nat → Int64} {nQ : Nat → Nat → Option Nat}
variable {I : Nat → Int32} {J : Nat → Int64} {ri : Nat → Nat → Int32} {rj : Nat → Nat → Int64} {rq : Nat → Nat → Option Nat}
variable {U : Nat → Int32} {V : Nat → Int64} {si : Nat → Nat → Int32} {sj : Nat → Nat → Int64} {sq : Nat → Nat → Option Nat}
theorem cpy_v {f g : Nat → Int32} {n j : Nat} (h : j < n) : va_cpy f g 0 0 n j = f j := by
  unfold va_cpy
  rw [if_pos ⟨Nat.zero_le _, by omega⟩, show 0 + (j - 0) = j from by omega]
theorem cp7 : ∃ (I1 : Nat → Int32) (r1 : Nat → Nat → Int32), g_X7_copyFrom nI nR I J ri rj rq = (I1, J, r1, rj, rq) ∧ (∀ f, f ∈ [224, 234, 235, 236] → I1 f = nI f) ∧ (∀ f, f ∉ [224, 234, 235, 236, 237, 238] → I1 f = I f) ∧ (∀ t, t ∈ [225, 226, 227, 228] → ∀ j, j < 200 → r1 t j = nR t j) ∧ (∀ t, t ∈ [229, 230, 231, 232] → ∀ j, j < 12 → r1 t j = nR t j) ∧ ∀ t, t ∉ [225, 226, 227, 228, 229, 230, 231, 232, 233] → r1 t = ri t := by
  rw [g_X7_copyFrom_e]
  simp only [↓ap1_n]
  refine ⟨_, _, rfl, fun f hf => ?_, fun f hf => ?_, fun t ht j hj => ?_, fun t ht j hj => ?_, fun t ht => ?_⟩
  · simp only [List.mem_cons, List.not_mem_nil, or_false] at hf
    rcases hf with e | e | e | e <;> subst e <;> simp [va_up]
  · simp only [List.mem_cons, List.not_mem_nil, or_false, not_or] at hf
    simp [va_up, hf]
  · simp only [List.mem_cons, List.not_mem_nil, or_false] at ht
    rcases ht with e | e | e | e <;> subst e <;> simp [va_up, cpy_v hj]
  · simp only [List.mem_cons, List.not_mem_nil, or_false] at ht
    rcases ht with e | e | e | e <;> subst e <;> simp [va_up, cpy_v hj]
  · simp only [List.mem_cons, List.not_mem_nil, or_false, not_or] at ht
    simp [va_up, ht]
theorem cp2 : ∃ (I1 : Nat → Int32) (J1 : Nat → Int64) (r1 : Nat → Nat → Int32) (l1 : Nat → Nat → Int64), g_X2_copyFrom nI nJ nR nL I J ri rj rq = (I1, J1, r1, l1, rq) ∧ (∀ f, f ∈ [64, 65] → I1 f = nI f) ∧ (∀ f, f ∉ [64, 65, 66] → I1 f = I f) ∧ (∀ t, t ∈ [69, 70, 73, 74, 75, 79] → ∀ j, j < 40 → r1 t j = nR t j) ∧ ∀ t, t ∉ [69, 70, 71, 72, 73, 74, 75, 76, 77, 79, 80, 288, 289, 290] → r1 t = ri t := by
  rw [g_X2_copyFrom_e]
  simp only [↓ap1_n]
  rw [g_X9_copyFrom_e]
  simp only [↓ap1_n]
  rw [bnV_mk]
  refine ⟨_, _, _, _, rfl, fun f hf => ?_, fun f hf => ?_, fun t ht j hj => ?_, fun t ht => ?_⟩
  · simp only [List.mem_cons, List.not_mem_nil, or_false] at hf
    rcases hf with e | e <;> subst e <;> simp [va_up]
  · simp only [List.mem_cons, List.not_mem_nil, or_false, not_or] at hf
    simp [va_up, hf]
  · simp only [List.mem_cons, List.not_mem_nil, or_false] at ht
    rcases ht with e | e | e | e | e | e <;> subst e <;> simp [va_up, cpy_v hj]
  · simp only [List.mem_cons, List.not_mem_nil, or_false, not_or] at ht
    simp [va_up, ht]
def QC (nI : Nat → Int32) (nR : Nat → Nat → Int32) (b : vM) : Prop := (∀ f, f ∈ [64, 65, 224, 234, 235, 236, 320] → b.1 f = nI f) ∧ (∀ t, t ∈ [225, 226, 227, 228] → ∀ j, j < 200 → b.2.2.1 t j = nR t j) ∧ (∀ t, t ∈ [229, 230, 231, 232] → ∀ j, j < 12 → b.2.2.1 t j = nR t j) ∧ ∀ t, t ∈ [69, 70, 73, 74, 75, 79] → ∀ j, j < 40 → b.2.2.1 t j = nR t j
theorem copyFrom_v : QC nI nR (g_X10_copyFrom nI nJ nR nL nQ I J ri rj rq) := by
  rw [g_X10_copyFrom_e]
  simp only [↓ap1_n]
  generalize hI0 : va_up (va_up (va_up (va_up (va_up I 320 (nI 320)) 321 (nI 321)) 322 (nI 322)) 323 (nI 323)) 324 (nI 324) = I0
  generalize va_up ri 325 (va_cpy (nR 325) (ri 325) 0 0 40) = r0
  have h320 : I0 320 = nI 320 := by rw [← hI0]; simp [va_up]
  obtain ⟨I7, r7, e7, a7, b7, c7, d7, f7⟩ := cp7 (nI := nI) (nR := nR) (I := I0) (J := J) (ri := r0) (rj := rj) (rq := rq)
  rw [e7, bnV_mk]
  obtain ⟨I2, J2, r2, l2, e2, a2, b2, c2, f2⟩ := cp2 (nI := nI) (nJ := nJ) (nR := nR) (nL := nL) (I := I7) (J := J) (ri := r7) (rj := rj) (rq := rq)
  rw [e2, bnV_mk]
  refine bV_of g_X0_copyFrom_f (fun Ia _ ra _ _ h1 => ?_)
  refine bV_of g_X3_copyFrom_f (fun Ib _ rb _ _ h3 => ?_)
  refine bV_of g_X1_copyFrom_f (fun Ic _ rc _ _ h4 => ?_)
  have DI : ∀ f, f ∈ [64, 65, 224, 234, 235, 236, 320] → f ∉ w_X0_copyFrom.1 ∧ f ∉ w_X3_copyFrom.1 ∧ f ∉ w_X1_copyFrom.1 := by decide
  have DR : ∀ t, t ∈ [225, 226, 227, 228, 229, 230, 231, 232, 69, 70, 73, 74, 75, 79] → t ∉ w_X0_copyFrom.2.2.1 ∧ t ∉ w_X3_copyFrom.2.2.1 ∧ t ∉ w_X1_copyFrom.2.2.1 := by decide
  have gI : ∀ f, f ∈ [64, 65, 224, 234, 235, 236, 320] → Ic f = I2 f := fun f hf => by
    have x1 : Ia f = I2 f := h1.1 f (DI f hf).1
    have x2 : Ib f = Ia f := h3.1 f (DI f hf).2.1
    have x3 : Ic f = Ib f := h4.1 f (DI f hf).2.2
    rw [x3, x2, x1]
  have gR : ∀ t, t ∈ [225, 226, 227, 228, 229, 230, 231, 232, 69, 70, 73, 74, 75, 79] → rc t = r2 t := fun t ht => by
    have x1 : ra t = r2 t := h1.2.2.1 t (DR t ht).1
    have x2 : rb t = ra t := h3.2.2.1 t (DR t ht).2.1
    have x3 : rc t = rb t := h4.2.2.1 t (DR t ht).2.2
    rw [x3, x2, x1]
  refine ⟨fun f hf => ?_, fun t ht j hj => ?_, fun t ht j hj => ?_, fun t ht j hj => ?_⟩
  · show Ic f = nI f
    rw [gI f hf]
    simp only [List.mem_cons, List.not_mem_nil, or_false] at hf
    rcases hf with e | e | e | e | e | e | e <;> subst e
    · exact a2 64 (by decide)
    · exact a2 65 (by decide)
    · rw [b2 224 (by decide)]; exact a7 224 (by decide)
    · rw [b2 234 (by decide)]; exact a7 234 (by decide)
    · rw [b2 235 (by decide)]; exact a7 235 (by decide)
    · rw [b2 236 (by decide)]; exact a7 236 (by decide)
    · rw [b2 320 (by decide), b7 320 (by decide)]; exact h320
  · show rc t j = nR t j
    have D : ∀ t, t ∈ [225, 226, 227, 228] → t ∈ [225, 226, 227, 228, 229, 230, 231, 232, 69, 70, 73, 74, 75, 79] ∧ t ∉ [69, 70, 71, 72, 73, 74, 75, 76, 77, 79, 80, 288, 289, 290] := by decide
    rw [gR t (D t ht).1, f2 t (D t ht).2]
    exact c7 t ht j hj
  · show rc t j = nR t j
    have D : ∀ t, t ∈ [229, 230, 231, 232] → t ∈ [225, 226, 227, 228, 229, 230, 231, 232, 69, 70, 73, 74, 75, 79] ∧ t ∉ [69, 70, 71, 72, 73, 74, 75, 76, 77, 79, 80, 288, 289, 290] := by decide
    rw [gR t (D t ht).1, f2 t (D t ht).2]
    exact d7 t ht j hj
  · show rc t j = nR t j
    have D : ∀ t, t ∈ [69, 70, 73, 74, 75, 79] → t ∈ [225, 226, 227, 228, 229, 230, 231, 232, 69, 70, 73, 74, 75, 79] := by decide
    rw [gR t (D t ht)]
    exact c2 t ht j hj
/-- the trial stands as the country does -/
theorem RL_copy {A A1 : Nat → Int32} {I1 : Nat → Int32} {J1 : Nat → Int64} {r1 : Nat → Nat → Int32} {l1 : Nat → Nat → Int64} {q1 : Nat → Nat → Option Nat} (h : RSL nI nR A) (q : QC nI nR (I1, J1, r1, l1, q1)) (hA : ∀ i, zn i ∈ rlz → A1 i = A i) (hM : RMX A1) : RSL I1 r1 A1 := RL_cg h q.1 q.2.1 q.2.2.1 q.2.2.2 hA hM
theorem cellAt_m12 {x : Int32} (h0 : 0 ≤ x.toInt) (h1 : x.toInt ≤ 39) : g_X12_cellAt_c12 x U V si sj sq = (si 384 (100 + 16 * x.toNatClampNeg + 12), U, V, si, sj, sq) := by
  have e : g_X12_cellAt_c12 x U V si sj sq = (si 384 ((100 : Int32) + (16 : Int32) * x + 12).toNatClampNeg, U, V, si, sj, sq) := rfl
  rw [e, ixk (c := x) (k := 12) 12 (by decide) (by decide) h0 h1]
theorem sinks_l {a0 a1 a2 : Int32} (h60 : a2.toInt ≤ 60) (hc0 : 0 ≤ a0.toInt) : ∀ (n : Nat) (x : Int32) (I : Nat → Int32) (J : Nat → Int64) (ri : Nat → Nat → Int32) (rj : Nat → Nat → Int64) (U : Nat → Int32) (si : Nat → Nat → Int32) (sj : Nat → Nat → Int64), 0 ≤ x.toInt → x.toInt ≤ a2.toInt → (60 - x.toInt).toNat < n → (I 320).toInt + (a2.toInt - x.toInt) ≤ 600 → a0.toInt < (I 65).toInt → RSL I ri (si 384) → (g_X11_sinks_L35 a0 a1 a2 rq n x I J ri rj).1 = (g_X12_sinks_L38 a0 a1 a2 V sq n (-1) x U si sj).1 := by
  intro n
  induction n with
  | zero => intro x _ _ _ _ _ _ _ _ _ h; exact absurd h (Nat.not_lt_zero _)
  | succ n ih =>
    intro x I J ri rj U si sj h1 h2 h3 h4 h5 h
    rw [g_X11_sinks_L35_e, g_X12_sinks_L38_e]
    by_cases d : a2 ≤ x
    · simp only [if_pos d, g_X12_sinks_K80, ↓ap1_n]
    · have d1 := Int32.lt_iff_toInt_lt.mp (Int32.not_le.mp d)
      have e := t1_inc (x := x) (by omega) (by omega)
      have zc := clampE a0
      have z65 := clampE (I 65)
      have hc4 := h.1.2.1.2
      obtain ⟨I1, J1, r1, l1, e1, n1, n73, n74, nr, nl, nj, nd⟩ := nature_v (I := I) (J := J) (ri := ri) (rj := rj) (rq := rq) (a0 := a1) h.1 (by omega)
      obtain ⟨U1, s1, m1, e2, o2, z0, z4, z5, z12, zo, -⟩ := month_v (U := U) (V := V) (sj := sj) (sq := sq) (a0 := a1) h (by omega)
      have hd := nd a0.toNatClampNeg (by omega)
      have h12 := z12 a0.toNatClampNeg (by omega)
      simp only [if_neg d, if_neg (show ¬ (0 : Int32) ≤ -1 by decide), ↓ap1_n]
      rw [e1, e2, bnV_mk, bnV_mk, isDry_v, cellAt_m12 hc0 (by omega), bnI_mk, bnI_mk, hasBit_v hc0 (by omega), hd, h12]
      have i320 : I1 320 = I 320 := n1 320 (by decide)
      by_cases q : dryN a1 I ri a0.toNatClampNeg = true
      · simp only [if_pos q, if_neg (show ¬ (1 : Int32) = 0 by decide), g_X12_sinks_K74, ↓ap1_n]
        have oI : ∀ f, f ∈ [64, 65, 224, 234, 235, 236] → va_up I1 320 (I1 320 + 1) f = I f := fun f hf => by
          have D : ∀ f, f ∈ [64, 65, 224, 234, 235, 236] → f ≠ 320 ∧ f ≠ 66 := by decide
          rw [va_up_ne _ _ (D f hf).1]
          exact n1 f (D f hf).2
        have o0 : va_up I1 320 (I1 320 + 1) 320 = I 320 + 1 := by rw [va_up_self, i320]
        have n0 := h.1.1.1
        have q0 : (I 320 + 1).toInt = (I 320).toInt + 1 := t1_one (by omega) (by omega)
        have D2 : ∀ t, t ∈ [69, 70, 75, 79, 225, 226, 227, 228, 229, 230, 231, 232] → t ∉ [73, 74, 76, 77, 81] := by decide
        refine ih (x + Int32.ofInt 1) (va_up I1 320 (I1 320 + 1)) J1 r1 l1 U1 s1 m1 (by omega) (by omega) (by omega) (by rw [o0, q0]; omega) (by rw [oI 65 (by decide)]; exact h5) ?_
        exact RL_month (a0 := a1) h (by omega) oI o0 n73 n74 (fun t ht => nr t (D2 t ht)) z0 z4 z5 zo
      · have e3 : s1 384 (0 : Int32).toNatClampNeg - 1 = I 320 := by
          rw [show (0 : Int32).toNatClampNeg = 0 from by decide, z0, ← h.2.2.1.1]
          have q0 : (I 320 + 1).toInt = (I 320).toInt + 1 := t1_one (by have := h.1.1.1; omega) (by omega)
          exact Int32.toInt_inj.mp (by rw [i_sub q0 (show (1 : Int32).toInt = 1 by decide) (by have := h.1.1.1; omega) (by omega)]; omega)
        simp only [if_neg q, if_pos (rfl : (0 : Int32) = 0), g_X12_sinks_K74, ↓ap1_n]
        rw [e3, i320]
        have hn : ∃ k, n = k + 1 := ⟨n - 1, by omega⟩
        obtain ⟨k, hk⟩ := hn
        subst hk
        rw [g_X12_sinks_L38_e]
        have p0 : (0 : Int32) ≤ I 320 := Int32.le_iff_toInt_le.mpr (by have := h.1.1.1; have k0 : (0 : Int32).toInt = 0 := by decide
                                                                       omega)
        by_cases d2 : a2 ≤ x + Int32.ofInt 1
        · simp only [if_pos d2, g_X12_sinks_K80, ↓ap1_n, if_true]
        · simp only [if_neg d2, if_pos p0, g_X12_sinks_K80, ↓ap1_n, if_true]
theorem sinks_v {a0 a1 a2 : Int32} (h : RSL nI nR (si 384)) : (g_X11_sinks nI nJ nR nL nQ a0 a1 a2 I J ri rj rq).1 = (g_X12_sinks a0 a1 a2 U V si sj sq).1 := by
  have h' := h
  obtain ⟨⟨⟨m0, m6⟩, ⟨c0, c4⟩, hl⟩, hmx, ⟨e0, e1, e2, e3⟩, _⟩ := h'
  rw [g_X11_sinks_e, g_X12_sinks_e, isCell_c, isCell_m]
  simp only [bnI_mk]
  rw [← e2]
  by_cases q1 : bt a0 0 (nI 65 - 1) = 0
  · simp only [if_pos q1, g_X11_sinks_K19, g_X12_sinks_K19]
  · obtain ⟨v, t1, t2, t3⟩ := canTime (a0 := a2) (a1 := a1) (J := nJ) (rj := nL) (rq := nQ) (U := U) (V := V) (sj := sj) (sq := sq) h
    have b1 := bt_cell c0 c4 q1
    simp only [if_neg q1]
    rw [t1, t2]
    simp only [bnI_mk]
    by_cases q2 : v = 0
    · simp only [if_pos q2, g_X11_sinks_K19, g_X12_sinks_K19]
    · obtain ⟨b2, b3, b4, b5, b6⟩ := t3 q2
      simp only [if_neg q2, ↓ap1_n]
      have hq : QC nI nR (g_X10_copyFrom nI nJ nR nL nQ I J ri rj rq) := copyFrom_v
      generalize g_X10_copyFrom nI nJ nR nL nQ I J ri rj rq = b at hq ⊢
      obtain ⟨I1, J1, r1, l1, rq1⟩ := b
      rw [bnV_mk]
      have k0 : (0 : Int32).toInt = 0 := by decide
      have e384 : va_up si 386 (va_cpy (si 384) (si 386) 0 0 12720) 384 = si 384 := va_up_ne _ _ (by decide)
      have i320 : I1 320 = nI 320 := hq.1 320 (by decide)
      have i65 : I1 65 = nI 65 := hq.1 65 (by decide)
      refine sinks_l b5 b1.1 ((60 - (0 : Int32).toInt).toNat + 1) 0 I1 J1 r1 l1 U _ sj (by omega) (by omega) (by omega) (by rw [i320]; omega) (by rw [i65]; exact b1.2) ?_
      rw [e384]
      exact RL_copy h hq (fun _ _ => rfl) hmx
end PU13
/-! ===== pure: KEEPS on both sides ===== -/
section PU14
variable {nI : Nat → Int32} {nJ : Nat → Int64} {nR : Nat → Nat → Int32} {nL : Nat → Nat → Int64} {nQ : Nat → Nat → Option Nat}
variable {I : Nat → Int32} {J : Nat → Int64} {ri : Nat → Nat → Int32} {rj : Nat → Nat → Int64} {rq : Nat → Nat → Option Nat}
variable {U : Nat → Int32} {V : Nat → Int64} {si : Nat → Nat → Int32} {sj : Nat → Nat → Int64} {sq : Nat → Nat → Option Nat}
theorem zn_rl {i : Nat} (h : zn i ∈ rlz) : i < 12720 := by
  by_cases q : i < 12720
  · exact q
  · have e : zn i = 999 := by
      unfold zn
      rw [if_neg (by omega), if_neg (by omega), if_neg (by omega), if_neg (by omega), if_neg (by omega), if_neg (by omega), if_neg (by omega), if_neg (by omega), if_neg (by omega), if_neg (by omega), if_neg (by omega), if_neg (by omega)]
    rw [e] at h
    exact absurd h (by decide)
theorem cellAt_m4 {x : Int32} (h0 : 0 ≤ x.toInt) (h1 : x.toInt ≤ 39) : g_X12_cellAt_c4 x U V si sj sq = (si 384 (100 + 16 * x.toNatClampNeg + 4), U, V, si, sj, sq) := by
  rw [cellAt_v4, ixk (c := x) (k := 4) 4 (by decide) (by decide) h0 h1]
theorem cellAt_m6 {x : Int32} (h0 : 0 ≤ x.toInt) (h1 : x.toInt ≤ 39) : g_X12_cellAt_c6 x U V si sj sq = (si 384 (100 + 16 * x.toNatClampNeg + 6), U, V, si, sj, sq) := by
  rw [cellAt_v6, ixk (c := x) (k := 6) 6 (by decide) (by decide) h0 h1]
/-- the SAND behind some months: the class walks it alone, the reference lets the months go by -/
theorem sb_l {a1 a2 a3 : Int32} (h60 : a3.toInt ≤ 60) (hc0 : 0 ≤ a1.toInt) (hc1 : a1.toInt ≤ 39) : ∀ (n : Nat) (x : Int32) (I : Nat → Int32) (ri : Nat → Nat → Int32) (G : Nat → Int32) (gr : Nat → Nat → Int32) (U : Nat → Int32) (si : Nat → Nat → Int32) (sj : Nat → Nat → Int64), 0 ≤ x.toInt → x.toInt ≤ a3.toInt → (60 - x.toInt).toNat < n → (I 320).toInt + a3.toInt ≤ 600 → 0 ≤ (I 320).toInt → G 320 = I 320 + x → G 65 = I 65 → (∀ t, t ∈ [73, 75, 79, 232] → gr t = ri t) → RSL G gr (si 384) → ∃ (v : Int32) (I1 : Nat → Int32) (r1 : Nat → Nat → Int32) (U1 : Nat → Int32) (s1 : Nat → Nat → Int32) (m1 : Nat → Nat → Int64), g_X10_sandBehind_L2 a3 a1 J rj rq n x I ri = (v, I1, J, r1, rj, rq) ∧ g_X12_sandBehind_L3 a1 a2 a3 V sq n x U si sj = (v, U1, V, va_up s1 384 (va_cpy (s1 386) (s1 384) 0 0 12720), m1, sq) ∧ ∀ t, t ∉ [384, 405, 409, 411, 412] → s1 t = si t := by
  intro n
  induction n with
  | zero => intro x _ _ _ _ _ _ _ _ _ h; exact absurd h (Nat.not_lt_zero _)
  | succ n ih =>
    intro x I ri G gr U si sj h1 h2 h3 h4 h5 hG h65 hR h
    rw [g_X10_sandBehind_L2_e, g_X12_sandBehind_L3_e]
    have zc := clampE a1
    by_cases d : a3 ≤ x
    · simp only [if_pos d, ↓ap1_n]
      rw [cellAt_m4 hc0 hc1, bnI_mk]
      refine ⟨ri 73 a1.toNatClampNeg, I, ri, U, si, sj, rfl, ?_, fun _ _ => rfl⟩
      rw [(h.2.2.2.2.2.1 a1.toNatClampNeg (by omega)).2.2.1, hR 73 (by decide)]
    · have d1 := Int32.lt_iff_toInt_lt.mp (Int32.not_le.mp d)
      have e := t1_inc (x := x) (by omega) (by omega)
      have ex : (I 320 + x).toInt = (I 320).toInt + x.toInt := i_add rfl rfl (by omega) (by omega)
      have g6 : (G 320).toInt < 600 := by rw [hG, ex]; omega
      simp only [if_neg d, ↓ap1_n]
      obtain ⟨I1, g, hI, hw⟩ := walk_v (I := I) (J := J) (ri := ri) (rj := rj) (rq := rq) (a0 := ri 232 (I 320 + x - (I 320 + x) / 12 * 12).toNatClampNeg) (by rw [← h65]; exact h.1.2.1.1) (by rw [← h65]; exact h.1.2.1.2)
      obtain ⟨U1, s1, m1, e2, o2, z0, z4, z5, z12, zo, -⟩ := month_v (U := U) (V := V) (sj := sj) (sq := sq) (a0 := a2) h g6
      rw [hw, e2, bnV_mk, bnV_mk]
      have hs : skS (ri 232 (I 320 + x - (I 320 + x) / 12 * 12).toNatClampNeg) (ri 79) (ri 75) (ri 73) (I 65).toNatClampNeg = sdN G gr := by
        unfold sdN tmod
        rw [hG, h65, hR 73 (by decide), hR 75 (by decide), hR 79 (by decide), hR 232 (by decide)]
      have q0 : (G 320 + 1).toInt = (G 320).toInt + 1 := t1_one (by rw [hG, ex]; omega) (by omega)
      have hRL := RL_month (I1 := va_up G 320 (G 320 + 1)) (r1 := va_up (va_up gr 73 (sdN G gr)) 74 (reN G gr)) (s1 := s1) (a0 := a2) h g6 (fun f hf => va_up_ne _ _ ((by decide : ∀ f, f ∈ [64, 65, 224, 234, 235, 236] → f ≠ 320) f hf)) (va_up_self _ _ _) (by rw [va_up_ne _ _ (show (73 : Nat) ≠ 74 by decide), va_up_self]) (va_up_self _ _ _) (fun t ht => by
        have D := (by decide : ∀ t, t ∈ [69, 70, 75, 79, 225, 226, 227, 228, 229, 230, 231, 232] → t ≠ 74 ∧ t ≠ 73) t ht
        rw [va_up_ne _ _ D.1, va_up_ne _ _ D.2]) z0 z4 z5 zo
      have i320 : I1 320 = I 320 := hI 320 (by decide)
      have i65 : I1 65 = I 65 := hI 65 (by decide)
      obtain ⟨v, I2, r2, U2, s2, m2, c1, c2, c3⟩ := ih (x + Int32.ofInt 1) I1 (va_up (va_up ri 81 g) 73 (skS (ri 232 (I 320 + x - (I 320 + x) / 12 * 12).toNatClampNeg) (ri 79) (ri 75) (ri 73) (I 65).toNatClampNeg)) (va_up G 320 (G 320 + 1)) (va_up (va_up gr 73 (sdN G gr)) 74 (reN G gr)) U1 s1 m1 (by omega) (by omega) (by omega) (by rw [i320]; exact h4) (by rw [i320]; exact h5) (by
        rw [va_up_self, i320, hG]
        have ex1 : (I 320 + (x + Int32.ofInt 1)).toInt = (I 320).toInt + (x.toInt + 1) := i_add rfl e (by omega) (by omega)
        rw [hG] at q0
        exact Int32.toInt_inj.mp (by rw [q0, ex1, ex]; omega)) (by rw [va_up_ne _ _ (show (65 : Nat) ≠ 320 by decide), i65]; exact h65) (fun t ht => by
        simp only [List.mem_cons, List.not_mem_nil, or_false] at ht
        rcases ht with y | y | y | y <;> subst y
        · rw [va_up_ne _ _ (show (73 : Nat) ≠ 74 by decide), va_up_self, va_up_self]; exact hs.symm
        · rw [va_up_ne _ _ (show (75 : Nat) ≠ 74 by decide), va_up_ne _ _ (show (75 : Nat) ≠ 73 by decide), va_up_ne _ _ (show (75 : Nat) ≠ 73 by decide), va_up_ne _ _ (show (75 : Nat) ≠ 81 by decide)]; exact hR 75 (by decide)
        · rw [va_up_ne _ _ (show (79 : Nat) ≠ 74 by decide), va_up_ne _ _ (show (79 : Nat) ≠ 73 by decide), va_up_ne _ _ (show (79 : Nat) ≠ 73 by decide), va_up_ne _ _ (show (79 : Nat) ≠ 81 by decide)]; exact hR 79 (by decide)
        · rw [va_up_ne _ _ (show (232 : Nat) ≠ 74 by decide), va_up_ne _ _ (show (232 : Nat) ≠ 73 by decide), va_up_ne _ _ (show (232 : Nat) ≠ 73 by decide), va_up_ne _ _ (show (232 : Nat) ≠ 81 by decide)]; exact hR 232 (by decide)) hRL
      exact ⟨v, I2, r2, U2, s2, m2, c1, c2, fun t ht => (c3 t ht).trans (o2 t ht)⟩
theorem keeps_v {a0 a1 a2 a3 : Int32} (h : RSL nI nR (si 384)) : (g_X11_keeps nI nJ nR nL nQ a0 a1 a2 a3 I J ri rj rq).1 = (g_X12_keeps a0 a1 a2 a3 U V si sj sq).1 := by
  have h' := h
  obtain ⟨⟨⟨m0, m6⟩, ⟨c0, c4⟩, hl⟩, hmx, ⟨e0, e1, e2, e3⟩, hlv, htb, hld, hnx⟩ := h'
  rw [g_X11_keeps_e, g_X12_keeps_e]
  simp only [isCell_c, isCell_m, bnI_mk, ← e2, g_X11_keeps_K32, g_X11_keeps_K33_2, g_X11_keeps_K55_2, g_X12_keeps_K38]
  by_cases q1 : bt a0 0 (nI 65 - 1) = 0
  · simp only [if_pos q1]
  · by_cases q2 : bt a1 0 (nI 65 - 1) = 0
    · simp only [if_neg q1, if_pos q2]
    · have b1 := bt_cell c0 c4 q1
      have b2 := bt_cell c0 c4 q2
      have z0 := clampE a0
      have z1 := clampE a1
      obtain ⟨v, t1, t2, t3⟩ := canTime (a0 := a3) (a1 := a2) (J := nJ) (rj := nL) (rq := nQ) (U := U) (V := V) (sj := sj) (sq := sq) h
      have hw := (hld a0.toNatClampNeg (by omega)).2.2.2.2.1
      simp only [if_neg q1, if_neg q2]
      rw [t1, cellAt_m6 b1.1 (by omega), bnI_mk, bnI_mk, t2, bnI_mk, hw, g_X11_keeps_K33_e]
      simp only [↓ap1_n, g_X11_keeps_K55]
      by_cases q3 : nR 75 a0.toNatClampNeg = 0
      · by_cases q4 : v = 0
        · simp only [if_pos q3, if_pos q4]
        · simp only [if_pos q3, if_neg q4]
      · by_cases q4 : v = 0
        · simp only [if_neg q3, if_pos q4]
        · obtain ⟨b3, b4, b5, b6, b7⟩ := t3 q4
          simp only [if_neg q3, if_neg q4]
          have k0 : (0 : Int32).toInt = 0 := by decide
          have hq : QC nI nR (g_X10_copyFrom nI nJ nR nL nQ I J ri rj rq) := copyFrom_v
          generalize g_X10_copyFrom nI nJ nR nL nQ I J ri rj rq = b at hq ⊢
          obtain ⟨I1, J1, r1, l1, rq1⟩ := b
          rw [bnV_mk, g_X10_sandBehind_e, g_X12_sandBehind_e]
          generalize hS : va_up si 386 (va_cpy (si 384) (si 386) 0 0 12720) = S
          have s384 : S 384 = si 384 := by rw [← hS]; exact va_up_ne _ _ (by decide)
          have s386 : ∀ i, i < 12720 → S 386 i = si 384 i := fun i hi => by rw [← hS, va_up_self]; exact cpy_v hi
          have i320 : I1 320 = nI 320 := hq.1 320 (by decide)
          have hR1 : RSL I1 r1 (S 384) := by rw [s384]; exact RL_copy h hq (fun _ _ => rfl) hmx
          obtain ⟨v1, I2, r2, U1, s1, n1, c1, c2, c3⟩ := sb_l (J := J1) (rj := l1) (rq := rq1) (V := V) (sq := sq) (a1 := a1) (a2 := a2) (a3 := a3) b6 b2.1 (by omega) ((60 - (0 : Int32).toInt).toNat + 1) 0 I1 r1 I1 r1 U S sj (by omega) (by omega) (by omega) (by rw [i320]; exact b7) (by rw [i320]; exact m0) (by rw [Int32.add_zero]) rfl (fun _ _ => rfl) hR1
          rw [c1, c2, bnI_mk, bnI_mk]
          have hq2 : QC nI nR (g_X10_copyFrom nI nJ nR nL nQ I2 J1 r2 l1 rq1) := copyFrom_v
          generalize g_X10_copyFrom nI nJ nR nL nQ I2 J1 r2 l1 rq1 = b at hq2 ⊢
          obtain ⟨I3, J3, r3, l3, rq3⟩ := b
          rw [bnV_mk]
          have i6 := ixk (c := a0) (k := 6) 6 (by decide) (by decide) b1.1 (by omega)
          simp only [i6, va_up_self, up_up]
          rw [g_X10_sandBehind_e, g_X12_sandBehind_e]
          have t386 : s1 386 = S 386 := c3 386 (by decide)
          generalize hT : upd (va_cpy (s1 386) (s1 384) 0 0 12720) (100 + 16 * a0.toNatClampNeg + 6) 0 = T
          have hM : ∀ i, i < 12720 → va_cpy (s1 386) (s1 384) 0 0 12720 i = si 384 i := fun i hi => by rw [cpy_v hi, t386]; exact s386 i hi
          have hR2 : RSL I3 r3 (va_cpy (s1 386) (s1 384) 0 0 12720) := RL_copy h hq2 (fun i hi => hM i (zn_rl hi)) (by
            show (0 ≤ (va_cpy (s1 386) (s1 384) 0 0 12720 1).toInt ∧ (va_cpy (s1 386) (s1 384) 0 0 12720 1).toInt ≤ 5) ∧ (0 ≤ (va_cpy (s1 386) (s1 384) 0 0 12720 5).toInt ∧ (va_cpy (s1 386) (s1 384) 0 0 12720 5).toInt ≤ 40) ∧ (va_cpy (s1 386) (s1 384) 0 0 12720 4).toInt ≤ 5
            rw [hM 1 (by decide), hM 5 (by decide), hM 4 (by decide)]; exact hmx)
          have hR3 := RL_wall (a0 := a0) (a1 := 0) hR2 b1.1 (by omega) (by omega)
          rw [hT] at hR3
          have j320 : I3 320 = nI 320 := hq2.1 320 (by decide)
          have u384 : va_up s1 384 T 384 = T := va_up_self _ _ _
          obtain ⟨v2, I4, r4, U4, s4, n4, d1, d2, d3⟩ := sb_l (J := J3) (rj := l3) (rq := rq3) (V := V) (sq := sq) (a1 := a1) (a2 := a2) (a3 := a3) b6 b2.1 (by omega) ((60 - (0 : Int32).toInt).toNat + 1) 0 I3 (va_up r3 75 (upd (r3 75) a0.toNatClampNeg 0)) I3 (va_up r3 75 (upd (r3 75) a0.toNatClampNeg 0)) U1 (va_up s1 384 T) n1 (by omega) (by omega) (by omega) (by rw [j320]; exact b7) (by rw [j320]; exact m0) (by rw [Int32.add_zero]) rfl (fun _ _ => rfl) (by rw [u384]; exact hR3)
          rw [d1, d2, bnI_mk, bnI_mk]
end PU14
/-! ===== pure: TABLE, RULES, CELL on both sides ===== -/
section PU15
variable {I : Nat → Int32} {J : Nat → Int64} {ri : Nat → Nat → Int32} {rj : Nat → Nat → Int64} {rq : Nat → Nat → Option Nat}
variable {U : Nat → Int32} {V : Nat → Int64} {si : Nat → Nat → Int32} {sj : Nat → Nat → Int64} {sq : Nat → Nat → Option Nat}
variable {A A1 : Nat → Int32} {r1 : Nat → Nat → Int32} {I1 : Nat → Int32}
/-- what RSL hangs on beside THE TABLE and THE RULES -/
theorem RL_tr (h : RSL I ri A) (hI : ∀ f, f ∈ [64, 65, 224, 320] → I1 f = I f) (hr : ∀ t, t ∈ [69, 70, 73, 74, 75, 79, 225, 226, 227, 228] → r1 t = ri t) (hA : ∀ i, i < 13 ∨ 80 ≤ i → A1 i = A i) (hT : RTB I1 r1 A1) : RSL I1 r1 A1 := by
  obtain ⟨⟨hm, hc, hl⟩, hmx, ⟨e0, e1, e2, e3⟩, hlv, _, hld, hnx⟩ := h
  have a5 : ∀ o k, A5 A1 o k = A5 A o k := fun o k => hA (1220 + o + 5 * k) (Or.inr (by omega))
  refine ⟨⟨?_, ?_, ?_⟩, ?_, ⟨?_, ?_, ?_, ?_⟩, ?_, hT, fun c hc => ?_, ?_⟩
  · rw [hI 320 (by decide)]; exact hm
  · rw [hI 65 (by decide)]; exact hc
  · rw [hI 224 (by decide)]; exact hl
  · show (0 ≤ (A1 1).toInt ∧ (A1 1).toInt ≤ 5) ∧ (0 ≤ (A1 5).toInt ∧ (A1 5).toInt ≤ 40) ∧ (A1 4).toInt ≤ 5
    rw [hA 1 (Or.inl (by decide)), hA 5 (Or.inl (by decide)), hA 4 (Or.inl (by decide))]; exact hmx
  · rw [hI 320 (by decide), hA 0 (Or.inl (by decide))]; exact e0
  · rw [hI 64 (by decide), hA 1 (Or.inl (by decide))]; exact e1
  · rw [hI 65 (by decide), hA 2 (Or.inl (by decide))]; exact e2
  · rw [hI 224 (by decide), hA 3 (Or.inl (by decide))]; exact e3
  · show LVR _ _ _ _ _ _ _ _ _ _
    rw [hI 224 (by decide), hr 225 (by decide), hr 226 (by decide), hr 227 (by decide), hr 228 (by decide)]
    intro k hk
    rw [a5, a5, a5, a5, a5]
    exact hlv k hk
  · rw [hA _ (Or.inr (by omega)), hA _ (Or.inr (by omega)), hA _ (Or.inr (by omega)), hA _ (Or.inr (by omega)), hA _ (Or.inr (by omega)), hr 69 (by decide), hr 70 (by decide), hr 73 (by decide), hr 74 (by decide), hr 75 (by decide)]
    exact hld c hc
  · show NXT _ _ _ ∧ _
    rw [hI 65 (by decide), hr 79 (by decide), hr 69 (by decide)]
    exact hnx
theorem table_CV {a0 a1 a2 a3 a4 a5 : Int32} (h : RSL I ri (si 384)) : CV (g_X11_table a0 a1 a2 a3 a4 a5 I J ri rj rq) (g_X12_table a0 a1 a2 a3 a4 a5 U V si sj sq) := by
  rw [g_X11_table_e, g_X12_table_e]
  simp only [↓ap1_n, between_b, isIn_b, g_X11_table_K69, g_X11_table_K70_2, g_X12_table_K65, g_X11_table_K70]
  by_cases q0 : bt a0 0 11 = 0
  · simp only [if_pos q0]; exact cv_no h
  · by_cases q1 : bt a1 0 2000 = 0
    · simp only [if_neg q0, if_pos q1]; exact cv_no h
    · by_cases q2 : bt a2 a1 2000 = 0
      · simp only [if_neg q0, if_neg q1, if_pos q2]; exact cv_no h
      · by_cases q3 : bt a3 0 40 = 0
        · simp only [if_neg q0, if_neg q1, if_neg q2, if_pos q3]; exact cv_no h
        · by_cases q4 : bt a4 0 50 = 0
          · simp only [if_neg q0, if_neg q1, if_neg q2, if_neg q3, if_pos q4]; exact cv_no h
          · by_cases q5 : bt a5 0 100 = 0
            · simp only [if_neg q0, if_neg q1, if_neg q2, if_neg q3, if_neg q4, if_pos q5]; exact cv_no h
            · have b := bt_n q0
              have k0 : (0 : Int32).toInt = 0 := by decide
              have k11 : (11 : Int32).toInt = 11 := by decide
              have z := clampE a0
              have i0 := ixt (x := a0) (k := 0) 0 (by decide) (by decide) (by omega) (by omega)
              have i1 := ixt (x := a0) (k := 1) 1 (by decide) (by decide) (by omega) (by omega)
              have i2 := ixt (x := a0) (k := 2) 2 (by decide) (by decide) (by omega) (by omega)
              have i3 := ixt (x := a0) (k := 3) 3 (by decide) (by decide) (by omega) (by omega)
              have i4 := ixt (x := a0) (k := 4) 4 (by decide) (by decide) (by omega) (by omega)
              simp only [if_neg q0, if_neg q1, if_neg q2, if_neg q3, if_neg q4, if_neg q5, i0, i1, i2, i3, i4, va_up_self, up_up]
              refine ⟨rfl, ?_⟩
              show RSL I (va_up (va_up (va_up (va_up (va_up ri 229 (upd (ri 229) a0.toNatClampNeg a1)) 230 (upd (ri 230) a0.toNatClampNeg a2)) 231 (upd (ri 231) a0.toNatClampNeg a3)) 232 (upd (ri 232) a0.toNatClampNeg a4)) 233 (upd (ri 233) a0.toNatClampNeg a5)) (upd (upd (upd (upd (upd (si 384) (20 + 5 * a0.toNatClampNeg + 0) a1) (20 + 5 * a0.toNatClampNeg + 1) a2) (20 + 5 * a0.toNatClampNeg + 2) a3) (20 + 5 * a0.toNatClampNeg + 3) a4) (20 + 5 * a0.toNatClampNeg + 4) a5)
              refine RL_tr h (fun _ _ => rfl) (fun t ht => ?_) (fun i hi => ?_) ?_
              · have D := (by decide : ∀ t, t ∈ [69, 70, 73, 74, 75, 79, 225, 226, 227, 228] → t ≠ 229 ∧ t ≠ 230 ∧ t ≠ 231 ∧ t ≠ 232 ∧ t ≠ 233) t ht
                rw [va_up_ne _ _ D.2.2.2.2, va_up_ne _ _ D.2.2.2.1, va_up_ne _ _ D.2.2.1, va_up_ne _ _ D.2.1, va_up_ne _ _ D.1]
              · rw [upd_n _ _ (by omega), upd_n _ _ (by omega), upd_n _ _ (by omega), upd_n _ _ (by omega), upd_n _ _ (by omega)]
              · obtain ⟨_, _, _, _, ⟨htb, hb, hg, hd⟩, _⟩ := h
                refine ⟨fun j hj => ?_, ?_, ?_, ?_⟩
                · have x := htb j hj
                  by_cases w : j = a0.toNatClampNeg
                  · subst w
                    refine ⟨?_, ?_, ?_, ?_⟩
                    · rw [upd_n _ _ (by omega), upd_n _ _ (by omega), upd_n _ _ (by omega), upd_n _ _ (by omega), upd_s]; simp [va_up, upd]
                    · rw [upd_n _ _ (by omega), upd_n _ _ (by omega), upd_n _ _ (by omega), upd_s]; simp [va_up, upd]
                    · rw [upd_n _ _ (by omega), upd_n _ _ (by omega), upd_s]; simp [va_up, upd]
                    · rw [upd_n _ _ (by omega), upd_s]; simp [va_up, upd]
                  · refine ⟨?_, ?_, ?_, ?_⟩
                    · rw [upd_n _ _ (by omega), upd_n _ _ (by omega), upd_n _ _ (by omega), upd_n _ _ (by omega), upd_n _ _ (by omega)]; simp [va_up, upd, w]; exact x.1
                    · rw [upd_n _ _ (by omega), upd_n _ _ (by omega), upd_n _ _ (by omega), upd_n _ _ (by omega), upd_n _ _ (by omega)]; simp [va_up, upd, w]; exact x.2.1
                    · rw [upd_n _ _ (by omega), upd_n _ _ (by omega), upd_n _ _ (by omega), upd_n _ _ (by omega), upd_n _ _ (by omega)]; simp [va_up, upd, w]; exact x.2.2.1
                    · rw [upd_n _ _ (by omega), upd_n _ _ (by omega), upd_n _ _ (by omega), upd_n _ _ (by omega), upd_n _ _ (by omega)]; simp [va_up, upd, w]; exact x.2.2.2
                · rw [upd_n _ _ (by omega), upd_n _ _ (by omega), upd_n _ _ (by omega), upd_n _ _ (by omega), upd_n _ _ (by omega)]; exact hb
                · rw [upd_n _ _ (by omega), upd_n _ _ (by omega), upd_n _ _ (by omega), upd_n _ _ (by omega), upd_n _ _ (by omega)]; exact hg
                · rw [upd_n _ _ (by omega), upd_n _ _ (by omega), upd_n _ _ (by omega), upd_n _ _ (by omega), upd_n _ _ (by omega)]; exact hd
theorem rules_CV {a0 a1 a2 a3 a4 : Int32} (h : RSL I ri (si 384)) : CV (g_X11_rules a0 a1 a2 a3 a4 I J ri rj rq) (g_X12_rules a0 a1 a2 a3 a4 U V si sj sq) := by
  rw [g_X11_rules_e, g_X12_rules_e]
  simp only [↓ap1_n, between_b, isIn_b, g_X11_rules_K55, g_X11_rules_K56_2, g_X12_rules_K51, g_X11_rules_K56, show (13 : Int32).toNatClampNeg = 13 from by decide, show (14 : Int32).toNatClampNeg = 14 from by decide, show (15 : Int32).toNatClampNeg = 15 from by decide, show (16 : Int32).toNatClampNeg = 16 from by decide, show (17 : Int32).toNatClampNeg = 17 from by decide]
  by_cases q0 : bt a0 0 40 = 0
  · simp only [if_pos q0]; exact cv_no h
  · by_cases q1 : bt a1 0 5 = 0
    · simp only [if_neg q0, if_pos q1]; exact cv_no h
    · by_cases q2 : bt a2 0 50 = 0
      · simp only [if_neg q0, if_neg q1, if_pos q2]; exact cv_no h
      · by_cases q3 : bt a3 1 20 = 0
        · simp only [if_neg q0, if_neg q1, if_neg q2, if_pos q3]; exact cv_no h
        · by_cases q4 : bt a4 0 100 = 0
          · simp only [if_neg q0, if_neg q1, if_neg q2, if_neg q3, if_pos q4]; exact cv_no h
          · simp only [if_neg q0, if_neg q1, if_neg q2, if_neg q3, if_neg q4, va_up_self, up_up]
            refine ⟨rfl, ?_⟩
            show RSL (va_up (va_up (va_up (va_up (va_up I 234 a0) 235 a1) 236 a2) 237 a3) 238 a4) ri (upd (upd (upd (upd (upd (si 384) 13 a0) 14 a1) 15 a2) 16 a3) 17 a4)
            refine RL_tr h (fun f hf => ?_) (fun _ _ => rfl) (fun i hi => ?_) ?_
            · have D := (by decide : ∀ t, t ∈ [64, 65, 224, 320] → t ≠ 234 ∧ t ≠ 235 ∧ t ≠ 236 ∧ t ≠ 237 ∧ t ≠ 238) f hf
              rw [va_up_ne _ _ D.2.2.2.2, va_up_ne _ _ D.2.2.2.1, va_up_ne _ _ D.2.2.1, va_up_ne _ _ D.2.1, va_up_ne _ _ D.1]
            · rw [upd_n _ _ (by omega), upd_n _ _ (by omega), upd_n _ _ (by omega), upd_n _ _ (by omega), upd_n _ _ (by omega)]
            · obtain ⟨_, _, _, _, ⟨htb, hb, hg, hd⟩, _⟩ := h
              refine ⟨fun j hj => ?_, ?_, ?_, ?_⟩
              · have o : ∀ i, 20 ≤ i → upd (upd (upd (upd (upd (si 384) 13 a0) 14 a1) 15 a2) 16 a3) 17 a4 i = si 384 i := fun i hi => by rw [upd_n _ _ (by omega), upd_n _ _ (by omega), upd_n _ _ (by omega), upd_n _ _ (by omega), upd_n _ _ (by omega)]
                rw [o _ (by omega), o _ (by omega), o _ (by omega), o _ (by omega)]
                exact htb j hj
              · simp [va_up, upd]
              · simp [va_up, upd]
              · simp [va_up, upd]
/-- a CELL joins its RING -/
theorem joinRing_l {N a : Int32} (h0 : 0 ≤ N.toInt) (h39 : N.toInt ≤ 39) : ∀ (n : Nat) (la x : Int32), 0 ≤ x.toInt → x.toInt ≤ N.toInt → (39 - x.toInt).toNat < n → ((la = -1 ∧ ∀ c, c < x.toNatClampNeg → ri 69 c ≠ a) ∨ (0 ≤ la.toInt ∧ la.toNatClampNeg < x.toNatClampNeg ∧ ri 69 la.toNatClampNeg = a ∧ ∀ c, la.toNatClampNeg < c → c < x.toNatClampNeg → ri 69 c ≠ a)) → ((∀ c, c < N.toNatClampNeg → ri 69 c ≠ a) ∧ g_X2_joinRing_L5 N a I J ri rj rq n la x = (I, J, va_up ri 80 (upd (ri 80) a.toNatClampNeg N), rj, rq)) ∨ ∃ l : Nat, l < N.toNatClampNeg ∧ ri 69 l = a ∧ (∀ c, l < c → c < N.toNatClampNeg → ri 69 c ≠ a) ∧ g_X2_joinRing_L5 N a I J ri rj rq n la x = (I, J, va_up ri 79 (upd (ri 79) l N), rj, rq) := by
  intro n
  induction n with
  | zero => intro la x _ _ h; exact absurd h (Nat.not_lt_zero _)
  | succ n ih =>
    intro la x h1 h2 h3 hl
    have zx := clampE x
    have zN := clampE N
    rw [g_X2_joinRing_L5_e]
    simp only [↓ap1_n, g_X2_joinRing_K25]
    by_cases d : N ≤ x
    · have d1 := Int32.le_iff_toInt_le.mp d
      have ex : x.toNatClampNeg = N.toNatClampNeg := by omega
      rw [ex] at hl
      simp only [if_pos d]
      rcases hl with ⟨e, p⟩ | ⟨p0, p1, p2, p3⟩
      · simp only [if_pos e]
        exact Or.inl ⟨p, by first | exact rfl | exact trivial⟩
      · have e : ¬ la = -1 := fun y => by rw [y] at p0; exact absurd p0 (by decide)
        simp only [if_neg e]
        exact Or.inr ⟨la.toNatClampNeg, p1, p2, p3, by first | exact rfl | exact trivial⟩
    · have d1 := Int32.lt_iff_toInt_lt.mp (Int32.not_le.mp d)
      have e := t1_inc (x := x) (by omega) (by omega)
      have z3 := clampE (x + Int32.ofInt 1)
      have hx1 : (x + Int32.ofInt 1).toNatClampNeg = x.toNatClampNeg + 1 := by omega
      simp only [if_neg d]
      by_cases q : ri 69 x.toNatClampNeg = a
      · simp only [if_pos q]
        exact ih x (x + Int32.ofInt 1) (by omega) (by omega) (by omega) (Or.inr ⟨h1, by omega, q, fun c c1 c2 => by omega⟩)
      · simp only [if_neg q]
        refine ih la (x + Int32.ofInt 1) (by omega) (by omega) (by omega) ?_
        rw [hx1]
        rcases hl with ⟨e, p⟩ | ⟨p0, p1, p2, p3⟩
        · refine Or.inl ⟨e, fun c hc => ?_⟩
          by_cases w : c = x.toNatClampNeg
          · rw [w]; exact q
          · exact p c (by omega)
        · refine Or.inr ⟨p0, by omega, p2, fun c c1 c2 => ?_⟩
          by_cases w : c = x.toNatClampNeg
          · rw [w]; exact q
          · exact p3 c c1 (by omega)
/-- what RSL asks of a new CELL -/
theorem RL_cell {a0 a1 a4 a5 : Int32} (h : RSL I ri A) (d : (I 65).toInt < 40) (n : Nat) (hn : n = (I 65).toNatClampNeg) (r69 : r1 69 = upd (ri 69) n a0) (r70 : r1 70 = upd (ri 70) n a1) (r73 : r1 73 = upd (ri 73) n a4) (r74 : r1 74 = upd (ri 74) n a5) (ro : ∀ t, t ∈ [75, 225, 226, 227, 228, 229, 230, 231, 232] → r1 t = ri t) (hJ : ((∀ c, c < n → ri 69 c ≠ a0) ∧ r1 79 = ri 79) ∨ ∃ l : Nat, l < n ∧ ri 69 l = a0 ∧ (∀ c, l < c → c < n → ri 69 c ≠ a0) ∧ r1 79 = upd (ri 79) l (I 65)) (b0 : A1 (100 + 16 * n) = a0) (b1 : A1 (100 + 16 * n + 1) = a1) (b4 : A1 (100 + 16 * n + 4) = a4) (b5 : A1 (100 + 16 * n + 5) = a5) (b6 : A1 2 = A 2 + 1) (bo : ∀ i, i ≠ 2 → (i < 100 + 16 * n ∨ 100 + 16 * n + 16 ≤ i ∨ i = 100 + 16 * n + 6) → A1 i = A i) : RSL (va_up I 65 (I 65 + 1)) r1 A1 := by
  obtain ⟨⟨hm, ⟨c0, c4⟩, ⟨l0, l2⟩⟩, hmx, ⟨e0, e1, e2, e3⟩, hlv, ⟨htb, hb, hg, hd⟩, hld, ⟨hx, hx2⟩⟩ := h
  have q : (I 65 + 1).toInt = (I 65).toInt + 1 := t1_one (by omega) (by omega)
  have z := clampE (I 65)
  have z1 := clampE (I 65 + 1)
  have z224 := clampE (I 224)
  have N1 : (I 65 + 1).toNatClampNeg = n + 1 := by omega
  have o : ∀ {f : Nat}, f ≠ 65 → va_up I 65 (I 65 + 1) f = I f := fun hf => va_up_ne _ _ hf
  have s65 : va_up I 65 (I 65 + 1) 65 = I 65 + 1 := va_up_self _ _ _
  refine ⟨⟨?_, ?_, ?_⟩, ?_, ⟨?_, ?_, ?_, ?_⟩, ?_, ⟨?_, ?_, ?_, ?_⟩, ?_, ?_, ?_⟩
  · rw [o (show (320 : Nat) ≠ 65 by decide)]; exact hm
  · rw [s65, q]; exact ⟨by omega, by omega⟩
  · rw [o (show (224 : Nat) ≠ 65 by decide)]; exact ⟨l0, l2⟩
  · show (0 ≤ (A1 1).toInt ∧ (A1 1).toInt ≤ 5) ∧ (0 ≤ (A1 5).toInt ∧ (A1 5).toInt ≤ 40) ∧ (A1 4).toInt ≤ 5
    rw [bo 1 (by decide) (Or.inl (by omega)), bo 5 (by decide) (Or.inl (by omega)), bo 4 (by decide) (Or.inl (by omega))]; exact hmx
  · rw [o (show (320 : Nat) ≠ 65 by decide), bo 0 (by decide) (Or.inl (by omega))]; exact e0
  · rw [o (show (64 : Nat) ≠ 65 by decide), bo 1 (by decide) (Or.inl (by omega))]; exact e1
  · rw [s65, b6, e2]
  · rw [o (show (224 : Nat) ≠ 65 by decide), bo 3 (by decide) (Or.inl (by omega))]; exact e3
  · show LVR _ _ _ _ _ _ _ _ _ _
    rw [o (show (224 : Nat) ≠ 65 by decide), ro 225 (by decide), ro 226 (by decide), ro 227 (by decide), ro 228 (by decide)]
    intro k hk
    have a5 : ∀ p, A5 A1 p k = A5 A p k := fun p => bo (1220 + p + 5 * k) (by omega) (Or.inr (Or.inl (by omega)))
    rw [a5, a5, a5, a5, a5]
    exact hlv k hk
  · intro j hj
    rw [ro 229 (by decide), ro 230 (by decide), ro 231 (by decide), ro 232 (by decide), bo _ (by omega) (Or.inl (by omega)), bo _ (by omega) (Or.inl (by omega)), bo _ (by omega) (Or.inl (by omega)), bo _ (by omega) (Or.inl (by omega))]
    exact htb j hj
  · rw [o (show (234 : Nat) ≠ 65 by decide), bo 13 (by decide) (Or.inl (by omega))]; exact hb
  · rw [o (show (235 : Nat) ≠ 65 by decide), bo 14 (by decide) (Or.inl (by omega))]; exact hg
  · rw [o (show (236 : Nat) ≠ 65 by decide), bo 15 (by decide) (Or.inl (by omega))]; exact hd
  · intro c hc
    have x := hld c hc
    rw [r69, r70, r73, r74, ro 75 (by decide)]
    by_cases w : c = n
    · subst w
      rw [upd_s, upd_s, upd_s, upd_s, b0, b1, b4, b5, bo _ (by omega) (Or.inr (Or.inr rfl))]
      exact ⟨rfl, rfl, rfl, rfl, x.2.2.2.2.1, x.2.2.2.2.2⟩
    · rw [upd_n _ _ w, upd_n _ _ w, upd_n _ _ w, upd_n _ _ w, bo _ (by omega) (by omega), bo _ (by omega) (by omega), bo _ (by omega) (by omega), bo _ (by omega) (by omega), bo _ (by omega) (by omega)]
      exact x
  · rw [s65, N1, r69]
    rw [← hn] at hx hx2
    have gr : ∀ k, k < n → upd (ri 69) n a0 k = ri 69 k := fun k hk => upd_n _ _ (by omega)
    have grn : upd (ri 69) n a0 n = a0 := upd_s _ _ _
    have nxn : r1 79 n = -1 := by
      rcases hJ with ⟨_, e⟩ | ⟨l, l1, _, _, e⟩
      · rw [e]; exact hx2 n (Nat.le_refl _) (by omega)
      · rw [e, upd_n _ _ (by omega)]; exact hx2 n (Nat.le_refl _) (by omega)
    intro c hc
    by_cases w : c = n
    · subst w
      exact Or.inl ⟨nxn, fun k k1 k2 => by omega⟩
    · have hcn : c < n := by omega
      -- its next one stands, if it has one
      have keep : r1 79 c = ri 79 c → ((ri 79 c = -1 ∧ ∀ k, c < k → k < n → ri 69 k ≠ ri 69 c) → ri 69 c ≠ a0) → (r1 79 c = -1 ∧ ∀ k, c < k → k < n + 1 → upd (ri 69) n a0 k ≠ upd (ri 69) n a0 c) ∨ ∃ k, c < k ∧ k < n + 1 ∧ upd (ri 69) n a0 k = upd (ri 69) n a0 c ∧ (∀ i, c < i → i < k → upd (ri 69) n a0 i ≠ upd (ri 69) n a0 c) ∧ (r1 79 c).toInt = (k : Int) := fun ec hne => by
        rw [ec, gr c hcn]
        rcases hx c hcn with ⟨p1, p2⟩ | ⟨k, k1, k2, k3, k4, k5⟩
        · refine Or.inl ⟨p1, fun k k1 k2 => ?_⟩
          by_cases wk : k = n
          · subst wk; rw [grn]; exact fun y => hne ⟨p1, p2⟩ y.symm
          · rw [gr k (by omega)]; exact p2 k k1 (by omega)
        · refine Or.inr ⟨k, k1, by omega, ?_, fun i i1 i2 => ?_, k5⟩
          · rw [gr k k2]; exact k3
          · rw [gr i (by omega)]; exact k4 i i1 i2
      rcases hJ with ⟨p, e⟩ | ⟨l, l1, l2, l3, e⟩
      · exact keep (by rw [e]) (fun _ => p c hcn)
      · by_cases wl : c = l
        · subst wl
          refine Or.inr ⟨n, hcn, by omega, ?_, fun i i1 i2 => ?_, ?_⟩
          · rw [grn, gr c hcn]; exact l2.symm
          · rw [gr i i2, gr c hcn, l2]; exact l3 i i1 i2
          · rw [e, upd_s]; omega
        · refine keep (by rw [e, upd_n _ _ wl]) (fun y w0 => ?_)
          by_cases wc : c < l
          · exact y.2 l wc l1 (l2.trans w0.symm)
          · exact l3 c (by omega) hcn w0
  · intro j h1 h2
    rw [s65, N1] at h1
    rcases hJ with ⟨_, e⟩ | ⟨l, l1, _, _, e⟩
    · rw [e]; exact hx2 j (by omega) h2
    · rw [e, upd_n _ _ (by omega)]; exact hx2 j (by omega) h2
theorem cell_CV {a0 a1 a2 a3 a4 a5 : Int32} (h : RSL I ri (si 384)) : CV (g_X11_cell a0 a1 a2 a3 a4 a5 I J ri rj rq) (g_X12_cell a0 a1 a2 a3 a4 a5 U V si sj sq) := by
  have h' := h
  obtain ⟨⟨⟨m0, m6⟩, ⟨c0, c4⟩, hl⟩, hmx, ⟨e0, e1, e2, e3⟩, _⟩ := h'
  have k0 : (0 : Int32).toInt = 0 := by decide
  have k40 : (40 : Int32).toInt = 40 := by decide
  rw [g_X11_cell_e, g_X12_cell_e]
  simp only [isRing_c, isRing_m, bnI_mk, ↓ap1_n, between_b, isIn_b, g_X11_cell_K70, g_X11_cell_K71_2, g_X11_cell_K103_2, g_X12_cell_K86, show (2 : Int32).toNatClampNeg = 2 from by decide]
  rw [← e1]
  by_cases q0 : bt a0 0 (I 64 - 1) = 0
  · simp only [if_pos q0]; exact cv_no h
  · by_cases q1 : bt a1 (-500) 3000 = 0
    · simp only [if_neg q0, if_pos q1]; exact cv_no h
    · by_cases q2 : bt a2 0 31 = 0
      · simp only [if_neg q0, if_neg q1, if_pos q2]; exact cv_no h
      · by_cases q3 : bt a3 0 31 = 0
        · simp only [if_neg q0, if_neg q1, if_neg q2, if_pos q3]; exact cv_no h
        · by_cases q4 : bt a4 0 500 = 0
          · simp only [if_neg q0, if_neg q1, if_neg q2, if_neg q3, if_pos q4]; exact cv_no h
          · by_cases q5 : bt a5 0 400 = 0
            · simp only [if_neg q0, if_neg q1, if_neg q2, if_neg q3, if_neg q4, if_pos q5]; exact cv_no h
            · simp only [if_neg q0, if_neg q1, if_neg q2, if_neg q3, if_neg q4, if_neg q5]
              rw [g_X11_cell_K71_e]
              simp only [↓ap1_n, g_X11_cell_K103]
              rw [← e0, ← e2]
              by_cases q6 : (0 : Int32) < I 320
              · simp only [if_pos q6]; exact cv_no h
              · by_cases q7 : I 65 < 40
                · have d1 := Int32.lt_iff_toInt_lt.mp q7
                  have q8 : ¬ I 65 = 40 := fun y => by rw [y] at d1; omega
                  have z := clampE (I 65)
                  simp only [if_neg q6, if_pos q7, if_neg q8]
                  rw [g_X2_addCell_e]
                  simp only [↓ap1_n, if_pos q7]
                  generalize hR : va_up (va_up (va_up (va_up (va_up (va_up ri 69 _) 70 _) 71 _) 72 _) 73 _) 74 _ = R
                  have R69 : R 69 = upd (ri 69) (I 65).toNatClampNeg a0 := by rw [← hR]; simp [va_up]
                  have R70 : R 70 = upd (ri 70) (I 65).toNatClampNeg a1 := by rw [← hR]; simp [va_up]
                  have R73 : R 73 = upd (ri 73) (I 65).toNatClampNeg a4 := by rw [← hR]; simp [va_up]
                  have R74 : R 74 = upd (ri 74) (I 65).toNatClampNeg a5 := by rw [← hR]; simp [va_up]
                  have Ro : ∀ t, t ∉ [69, 70, 71, 72, 73, 74] → R t = ri t := fun t ht => by
                    simp only [List.mem_cons, List.not_mem_nil, or_false, not_or] at ht
                    rw [← hR]; simp [va_up, ht]
                  have i0 := ixk (c := I 65) (k := 0) 0 (by decide) (by decide) c0 (by omega)
                  have i1 := ixk (c := I 65) (k := 1) 1 (by decide) (by decide) c0 (by omega)
                  have i2 := ixk (c := I 65) (k := 2) 2 (by decide) (by decide) c0 (by omega)
                  have i3 := ixk (c := I 65) (k := 3) 3 (by decide) (by decide) c0 (by omega)
                  have i4 := ixk (c := I 65) (k := 4) 4 (by decide) (by decide) c0 (by omega)
                  have i5 := ixk (c := I 65) (k := 5) 5 (by decide) (by decide) c0 (by omega)
                  have i14 := ixk (c := I 65) (k := 14) 14 (by decide) (by decide) c0 (by omega)
                  have ge : g_X2_joinRing (I 65) a0 I J R rj rq = g_X2_joinRing_L5 (I 65) a0 I J R rj rq ((39 - (0 : Int32).toInt).toNat + 1) (-1) 0 := rfl
                  have jr := joinRing_l (I := I) (J := J) (ri := R) (rj := rj) (rq := rq) (N := I 65) (a := a0) c0 (by omega) ((39 - (0 : Int32).toInt).toNat + 1) (-1) 0 (by omega) (by omega) (by omega) (Or.inl ⟨rfl, fun c hc => by rw [show (0 : Int32).toNatClampNeg = 0 from by decide] at hc; exact absurd hc (Nat.not_lt_zero _)⟩)
                  rw [← ge] at jr
                  have gr : ∀ c, c < (I 65).toNatClampNeg → R 69 c = ri 69 c := fun c hc => by rw [R69, upd_n _ _ (by omega)]
                  simp only [i0, i1, i2, i3, i4, i5, i14, va_up_self, up_up]
                  have ev : I 65 + 1 - 1 = I 65 := by
                    have q : (I 65 + 1).toInt = (I 65).toInt + 1 := t1_one (by omega) (by omega)
                    exact Int32.toInt_inj.mp (by rw [i_sub q (show (1 : Int32).toInt = 1 by decide) (by omega) (by omega)]; omega)
                  rw [ev]
                  have fin : ∀ r2 : Nat → Nat → Int32, r2 69 = R 69 → r2 70 = R 70 → r2 73 = R 73 → r2 74 = R 74 → (∀ t, t ∈ [75, 225, 226, 227, 228, 229, 230, 231, 232] → r2 t = R t) → (((∀ c, c < (I 65).toNatClampNeg → R 69 c ≠ a0) ∧ r2 79 = R 79) ∨ ∃ l : Nat, l < (I 65).toNatClampNeg ∧ R 69 l = a0 ∧ (∀ c, l < c → c < (I 65).toNatClampNeg → R 69 c ≠ a0) ∧ r2 79 = upd (R 79) l (I 65)) → ∀ B : Nat → Int32, B = upd (upd (upd (upd (upd (upd (upd (upd (si 384) (100 + 16 * (I 65).toNatClampNeg + 0) a0) (100 + 16 * (I 65).toNatClampNeg + 1) a1) (100 + 16 * (I 65).toNatClampNeg + 2) a2) (100 + 16 * (I 65).toNatClampNeg + 3) a3) (100 + 16 * (I 65).toNatClampNeg + 4) a4) (100 + 16 * (I 65).toNatClampNeg + 5) a5) (100 + 16 * (I 65).toNatClampNeg + 14) (-1)) 2 (I 65 + 1) → RSL (va_up I 65 (I 65 + 1)) r2 B := fun r2 w69 w70 w73 w74 wo wJ B hB => by
                    subst hB
                    have R79 : R 79 = ri 79 := Ro 79 (by decide)
                    refine RL_cell (a0 := a0) (a1 := a1) (a4 := a4) (a5 := a5) h (by omega) _ rfl (w69.trans R69) (w70.trans R70) (w73.trans R73) (w74.trans R74) (fun t ht => (wo t ht).trans (Ro t ((by decide : ∀ t, t ∈ [75, 225, 226, 227, 228, 229, 230, 231, 232] → t ∉ [69, 70, 71, 72, 73, 74]) t ht))) ?_ ?_ ?_ ?_ ?_ ?_ (fun i h2 hi => ?_)
                    · rcases wJ with ⟨p, e⟩ | ⟨l, l1, l2, l3, e⟩
                      · exact Or.inl ⟨fun c hc => by rw [← gr c hc]; exact p c hc, e.trans R79⟩
                      · exact Or.inr ⟨l, l1, by rw [← gr l l1]; exact l2, fun c x1 x2 => by rw [← gr c x2]; exact l3 c x1 x2, by rw [e, R79]⟩
                    · rw [upd_n _ _ (by omega), upd_n _ _ (by omega), upd_n _ _ (by omega), upd_n _ _ (by omega), upd_n _ _ (by omega), upd_n _ _ (by omega), upd_n _ _ (by omega), Nat.add_zero, upd_s]
                    · rw [upd_n _ _ (by omega), upd_n _ _ (by omega), upd_n _ _ (by omega), upd_n _ _ (by omega), upd_n _ _ (by omega), upd_n _ _ (by omega), upd_s]
                    · rw [upd_n _ _ (by omega), upd_n _ _ (by omega), upd_n _ _ (by omega), upd_s]
                    · rw [upd_n _ _ (by omega), upd_n _ _ (by omega), upd_s]
                    · rw [upd_s, e2]
                    · rw [upd_n _ _ h2, upd_n _ _ (by omega), upd_n _ _ (by omega), upd_n _ _ (by omega), upd_n _ _ (by omega), upd_n _ _ (by omega), upd_n _ _ (by omega), upd_n _ _ (by omega)]
                  rcases jr with ⟨p, e⟩ | ⟨l, l1, l2, l3, e⟩
                  · rw [e, bnV_mk, bnI_mk]
                    refine ⟨rfl, ?_⟩
                    show RSL (va_up I 65 (I 65 + 1)) _ (va_up si 384 _ 384)
                    rw [va_up_self]
                    refine fin _ (va_up_ne _ _ (by decide)) (va_up_ne _ _ (by decide)) (va_up_ne _ _ (by decide)) (va_up_ne _ _ (by decide)) (fun t ht => va_up_ne _ _ ((by decide : ∀ t, t ∈ [75, 225, 226, 227, 228, 229, 230, 231, 232] → t ≠ 80) t ht)) (Or.inl ⟨p, va_up_ne _ _ (by decide)⟩) _ rfl
                  · rw [e, bnV_mk, bnI_mk]
                    refine ⟨rfl, ?_⟩
                    show RSL (va_up I 65 (I 65 + 1)) _ (va_up si 384 _ 384)
                    rw [va_up_self]
                    refine fin _ (va_up_ne _ _ (by decide)) (va_up_ne _ _ (by decide)) (va_up_ne _ _ (by decide)) (va_up_ne _ _ (by decide)) (fun t ht => va_up_ne _ _ ((by decide : ∀ t, t ∈ [75, 225, 226, 227, 228, 229, 230, 231, 232] → t ≠ 79) t ht)) (Or.inr ⟨l, l1, l2, l3, va_up_self _ _ _⟩) _ rfl
                · have d1 := Int32.le_iff_toInt_le.mp (Int32.not_lt.mp q7)
                  have q8 : I 65 = 40 := Int32.toInt_inj.mp (by omega)
                  simp only [if_neg q6, if_neg q7, if_pos q8]; exact cv_no h
end PU15
/-! ===== pure: the picture and the way back; the tried calls leave the country as it was ===== -/
section PU16
variable {nI : Nat → Int32} {nJ : Nat → Int64} {nR : Nat → Nat → Int32} {nL : Nat → Nat → Int64} {nQ : Nat → Nat → Option Nat}
variable {I : Nat → Int32} {J : Nat → Int64} {ri : Nat → Nat → Int32} {rj : Nat → Nat → Int64} {rq : Nat → Nat → Option Nat}
variable {U : Nat → Int32} {V : Nat → Int64} {si : Nat → Nat → Int32} {sj : Nat → Nat → Int64} {sq : Nat → Nat → Option Nat}
variable {C : Nat → Int32}
theorem image_q {r : Int32} {I1 : Nat → Int32} {J1 : Nat → Int64} {r1 : Nat → Nat → Int32} {l1 : Nat → Nat → Int64} {q1 : Nat → Nat → Option Nat} (e : g_X11_image nI nJ nR nL nQ I J ri rj rq = (r, I1, J1, r1, l1, q1)) : QC nI nR (I1, J1, r1, l1, q1) ∧ r = nI 320 := by
  have h : QC nI nR (g_X10_copyFrom nI nJ nR nL nQ I J ri rj rq) := copyFrom_v
  rw [g_X11_image_e] at e
  generalize g_X10_copyFrom nI nJ nR nL nQ I J ri rj rq = p at h e
  obtain ⟨a, b, c, d, f⟩ := p
  have e2 : ((nI 320, a, b, c, d, f) : Int32 × vM) = (r, I1, J1, r1, l1, q1) := e
  obtain ⟨x0, x⟩ := Prod.mk.inj e2
  exact ⟨x ▸ h, x0.symm⟩
theorem back_q {r : Int32} {I1 : Nat → Int32} {J1 : Nat → Int64} {r1 : Nat → Nat → Int32} {l1 : Nat → Nat → Int64} {q1 : Nat → Nat → Option Nat} (e : g_X11_back nI nJ nR nL nQ I J ri rj rq = (r, I1, J1, r1, l1, q1)) : QC nI nR (I1, J1, r1, l1, q1) ∧ r = nI 320 := by
  have h : QC nI nR (g_X10_copyFrom nI nJ nR nL nQ I J ri rj rq) := copyFrom_v
  rw [g_X11_back_e] at e
  generalize g_X10_copyFrom nI nJ nR nL nQ I J ri rj rq = p at h e
  obtain ⟨a, b, c, d, f⟩ := p
  have e2 : ((a 320, a, b, c, d, f) : Int32 × vM) = (r, I1, J1, r1, l1, q1) := e
  obtain ⟨x0, x⟩ := Prod.mk.inj e2
  exact ⟨x ▸ h, x0.symm.trans (h.1 320 (by decide))⟩
theorem image_m {r : Int32} {U1 : Nat → Int32} {V1 : Nat → Int64} {s1 : Nat → Nat → Int32} {m1 : Nat → Nat → Int64} {q1 : Nat → Nat → Option Nat} (e : g_X12_image U V si sj sq = (r, U1, V1, s1, m1, q1)) : r = si 384 0 ∧ ∀ i, i < 12720 → s1 385 i = si 384 i := by
  have e2 : ((si 384 0, U, V, va_up si 385 (va_cpy (si 384) (si 385) 0 0 12720), sj, sq) : Int32 × vM) = (r, U1, V1, s1, m1, q1) := e
  obtain ⟨x0, x⟩ := Prod.mk.inj e2
  have x3 : va_up si 385 (va_cpy (si 384) (si 385) 0 0 12720) = s1 := congrArg (fun p : vM => p.2.2.1) x
  refine ⟨x0.symm, fun i hi => ?_⟩
  rw [← x3, va_up_self]
  exact cpy_v hi
theorem back_m {r : Int32} {U1 : Nat → Int32} {V1 : Nat → Int64} {s1 : Nat → Nat → Int32} {m1 : Nat → Nat → Int64} {q1 : Nat → Nat → Option Nat} (e : g_X12_back U V si sj sq = (r, U1, V1, s1, m1, q1)) : r = si 385 0 ∧ ∀ i, i < 12720 → s1 384 i = si 385 i := by
  have e2 : ((va_up si 384 (va_cpy (si 385) (si 384) 0 0 12720) 384 (0 : Int32).toNatClampNeg, U, V, va_up si 384 (va_cpy (si 385) (si 384) 0 0 12720), sj, sq) : Int32 × vM) = (r, U1, V1, s1, m1, q1) := e
  obtain ⟨x0, x⟩ := Prod.mk.inj e2
  have x3 : va_up si 384 (va_cpy (si 385) (si 384) 0 0 12720) = s1 := congrArg (fun p : vM => p.2.2.1) x
  have k : ∀ i, i < 12720 → va_up si 384 (va_cpy (si 385) (si 384) 0 0 12720) 384 i = si 385 i := fun i hi => by rw [va_up_self]; exact cpy_v hi
  refine ⟨x0.symm.trans (k _ (by decide)), fun i hi => ?_⟩
  rw [← x3]
  exact k i hi
/-- the country is C again -/
def KC6 (C : Nat → Int32) (p : Int32 × vM) : Prop := ∀ i, i < 12720 → p.2.2.2.1 384 i = C i
theorem kc_e {r : Int32} {U1 : Nat → Int32} {V1 : Nat → Int64} {s1 : Nat → Nat → Int32} {m1 : Nat → Nat → Int64} {q1 : Nat → Nat → Option Nat} {p : Int32 × vM} (h : KC6 C p) (e : p = (r, U1, V1, s1, m1, q1)) : ∀ i, i < 12720 → s1 384 i = C i := by
  rw [e] at h
  exact h
theorem kc_no {v : Int32} : KC6 (si 384) (v, U, V, si, sj, sq) := fun _ _ => rfl
theorem kc_cp {v : Int32} {s : Nat → Nat → Int32} (h : ∀ i, i < 12720 → s 386 i = C i) : KC6 C (v, U, V, va_up s 384 (va_cpy (s 386) (s 384) 0 0 12720), sj, sq) := fun i hi => by
  show va_up s 384 (va_cpy (s 386) (s 384) 0 0 12720) 384 i = C i
  rw [va_up_self, cpy_v hi]
  exact h i hi
theorem kc_st : (∀ i, i < 12720 → va_up si 386 (va_cpy (si 384) (si 386) 0 0 12720) 386 i = si 384 i) ∧ va_up si 386 (va_cpy (si 384) (si 386) 0 0 12720) 384 = si 384 := ⟨fun i hi => by rw [va_up_self]; exact cpy_v hi, va_up_ne _ _ (by decide)⟩
/-- what a month leaves -/
theorem mo_386 {a0 : Int32} {U1 : Nat → Int32} {V1 : Nat → Int64} {s1 : Nat → Nat → Int32} {m1 : Nat → Nat → Int64} {q1 : Nat → Nat → Option Nat} (e : g_X12_month a0 U V si sj sq = (U1, V1, s1, m1, q1)) (h : ∀ i, i < 12720 → si 386 i = C i) : ∀ i, i < 12720 → s1 386 i = C i := fun i hi => by
  have f := g_X12_month_f (a0 := a0) (I := U) (J := V) (ri := si) (rj := sj) (rq := sq)
  rw [e] at f
  rw [show s1 386 = si 386 from f.2.2.1 386 (by decide)]
  exact h i hi
theorem isTime_b {a0 k a1 : Int32} : ∃ v : Int32, g_X12_isTime a0 k a1 U V si sj sq = (v, U, V, si, sj, sq) ∧ (v ≠ 0 → a0.toInt ≤ k.toInt) := by
  rw [g_X12_isTime_e]
  simp only [↓ap1_n, isIn_b, isRise_m, g_X12_isTime_K34]
  by_cases q2 : bt a0 1 k = 0
  · simp only [if_pos q2]
    exact ⟨0, rfl, fun y => absurd rfl y⟩
  · have b2 := bt_n q2
    simp only [if_neg q2]
    by_cases q1 : bt a1 0 2 = 0
    · simp only [if_pos q1]
      exact ⟨0, rfl, fun y => absurd rfl y⟩
    · simp only [if_neg q1]
      by_cases q3 : (600 : Int32) < si 384 0 + a0
      · simp only [if_pos q3]
        exact ⟨0, rfl, fun y => absurd rfl y⟩
      · simp only [if_neg q3]
        exact ⟨1, rfl, fun _ => b2.2⟩
theorem t1_i {x a : Int32} (h0 : 0 ≤ x.toInt) (h1 : x.toInt < a.toInt) (ha : a.toInt ≤ 60) : (x + Int32.ofInt 1).toInt = x.toInt + 1 := t1_inc (by omega) (by omega)
theorem sinks_k {a0 a1 a2 : Int32} (h60 : a2.toInt ≤ 60) : ∀ (n : Nat) (r x : Int32) (U : Nat → Int32) (s : Nat → Nat → Int32) (m : Nat → Nat → Int64), 0 ≤ x.toInt → (60 - x.toInt).toNat < n → (∀ i, i < 12720 → s 386 i = C i) → KC6 C (g_X12_sinks_L38 a0 a1 a2 V sq n r x U s m) := by
  intro n
  induction n with
  | zero => intro _ x _ _ _ _ h; exact absurd h (Nat.not_lt_zero _)
  | succ n ih =>
    intro r x U s m h1 h2 h
    rw [g_X12_sinks_L38_e]
    by_cases d : a2 ≤ x
    · rw [if_pos d]; exact kc_cp h
    · rw [if_neg d]
      by_cases d2 : (0 : Int32) ≤ r
      · rw [if_pos d2]; exact kc_cp h
      · rw [if_neg d2]
        have d1 := Int32.lt_iff_toInt_lt.mp (Int32.not_le.mp d)
        have e1 := t1_i h1 d1 h60
        have hm := fun U1 V1 s1 m1 q1 (e : g_X12_month a1 U V s m sq = (U1, V1, s1, m1, q1)) => mo_386 e h
        generalize g_X12_month a1 U V s m sq = p at hm ⊢
        obtain ⟨U1, V1, s1, m1, q1⟩ := p
        have h3 := hm U1 V1 s1 m1 q1 rfl
        rw [bnV_mk]
        have k : ∀ z, KC6 C (g_X12_sinks_K74 x (g_X12_sinks_L38 a0 a1 a2 V sq n) U1 s1 m1 z) := fun z => ih z (x + Int32.ofInt 1) U1 s1 m1 (by omega) (by omega) h3
        simp only [bnI_u, ↓ap1_n]
        split
        · exact k _
        · exact k _
theorem sinks_kc {a0 a1 a2 : Int32} : KC6 (si 384) (g_X12_sinks a0 a1 a2 U V si sj sq) := by
  rw [g_X12_sinks_e]
  obtain ⟨v, et, ti⟩ := isTime_b (a0 := a2) (k := 60) (a1 := a1) (U := U) (V := V) (si := si) (sj := sj) (sq := sq)
  rw [et]
  simp only [bnI_u]
  split
  · exact kc_no
  · split
    · exact kc_no
    · next h => exact sinks_k (ti h) _ _ _ _ _ _ (by decide) (by decide) kc_st.1
theorem cant_k {a0 a1 : Int32} (h60 : a1.toInt ≤ 60) : ∀ (n : Nat) (r x : Int32) (U : Nat → Int32) (s : Nat → Nat → Int32) (m : Nat → Nat → Int64), 0 ≤ x.toInt → (60 - x.toInt).toNat < n → (∀ i, i < 12720 → s 386 i = C i) → KC6 C (g_X12_cant_L29 a0 a1 V sq n r x U s m) := by
  intro n
  induction n with
  | zero => intro _ x _ _ _ _ h; exact absurd h (Nat.not_lt_zero _)
  | succ n ih =>
    intro r x U s m h1 h2 h
    rw [g_X12_cant_L29_e]
    by_cases d : a1 ≤ x
    · rw [if_pos d]; exact kc_cp h
    · rw [if_neg d]
      by_cases d2 : (0 : Int32) ≤ r
      · rw [if_pos d2]; exact kc_cp h
      · rw [if_neg d2]
        have d1 := Int32.lt_iff_toInt_lt.mp (Int32.not_le.mp d)
        have e1 := t1_i h1 d1 h60
        have hm := fun U1 V1 s1 m1 q1 (e : g_X12_month a0 U V s m sq = (U1, V1, s1, m1, q1)) => mo_386 e h
        generalize g_X12_month a0 U V s m sq = p at hm ⊢
        obtain ⟨U1, V1, s1, m1, q1⟩ := p
        have h3 := hm U1 V1 s1 m1 q1 rfl
        have k : ∀ z, KC6 C (g_X12_cant_K61 x (g_X12_cant_L29 a0 a1 V sq n) U1 s1 m1 z) := fun z => ih z (x + Int32.ofInt 1) U1 s1 m1 (by omega) (by omega) h3
        unfold bnV
        show KC6 C (if _ then _ else _)
        split
        · exact k _
        · exact k _
theorem cant_kc {a0 a1 : Int32} : KC6 (si 384) (g_X12_cant a0 a1 U V si sj sq) := by
  rw [g_X12_cant_e]
  obtain ⟨v, et, ti⟩ := isTime_b (a0 := a1) (k := 60) (a1 := a0) (U := U) (V := V) (si := si) (sj := sj) (sq := sq)
  rw [et]
  simp only [bnI_u]
  split
  · exact kc_no
  · next h => exact cant_k (ti h) _ _ _ _ _ _ (by decide) (by decide) kc_st.1
/-- behind the sand's way the country is what was kept; so is what was kept -/
theorem sb_k {a0 a1 a2 : Int32} (h60 : a2.toInt ≤ 60) : ∀ (n : Nat) (x : Int32) (U : Nat → Int32) (s : Nat → Nat → Int32) (m : Nat → Nat → Int64), 0 ≤ x.toInt → (60 - x.toInt).toNat < n → (∀ i, i < 12720 → s 386 i = C i) → KC6 C (g_X12_sandBehind_L3 a0 a1 a2 V sq n x U s m) := by
  intro n
  induction n with
  | zero => intro x _ _ _ _ h; exact absurd h (Nat.not_lt_zero _)
  | succ n ih =>
    intro x U s m h1 h2 h
    rw [g_X12_sandBehind_L3_e]
    by_cases d : a2 ≤ x
    · rw [if_pos d]
      unfold bnI
      exact kc_cp h
    · rw [if_neg d]
      have d1 := Int32.lt_iff_toInt_lt.mp (Int32.not_le.mp d)
      have e1 := t1_i h1 d1 h60
      have hm := fun U1 V1 s1 m1 q1 (e : g_X12_month a1 U V s m sq = (U1, V1, s1, m1, q1)) => mo_386 e h
      generalize g_X12_month a1 U V s m sq = p at hm ⊢
      obtain ⟨U1, V1, s1, m1, q1⟩ := p
      exact ih (x + Int32.ofInt 1) U1 s1 m1 (by omega) (by omega) (hm U1 V1 s1 m1 q1 rfl)
theorem keeps_kc {a0 a1 a2 a3 : Int32} : KC6 (si 384) (g_X12_keeps a0 a1 a2 a3 U V si sj sq) := by
  rw [g_X12_keeps_e]
  obtain ⟨v, et, ti⟩ := isTime_b (a0 := a3) (k := 60) (a1 := a2) (U := U) (V := V) (si := si) (sj := sj) (sq := sq)
  rw [et]
  simp only [bnI_u]
  split
  · exact kc_no
  · split
    · exact kc_no
    · split
      · exact kc_no
      · split
        · exact kc_no
        · next h =>
          have st := kc_st (si := si)
          generalize va_up si 386 (va_cpy (si 384) (si 386) 0 0 12720) = S at st ⊢
          have f1 := g_X12_sandBehind_f (a0 := a1) (a1 := a2) (a2 := a3) (I := U) (J := V) (ri := S) (rj := sj) (rq := sq)
          simp only [↓ap1_n]
          generalize g_X12_sandBehind a1 a2 a3 U V S sj sq = p at f1 ⊢
          obtain ⟨x1, U1, V1, s1, m1, q1⟩ := p
          have g1 : s1 386 = S 386 := f1.2.2.1 386 (by decide)
          exact fun i hi => sb_k (C := si 384) (ti h) _ (0 : Int32) U1 (va_up s1 384 _) m1 (by decide) (Nat.lt_succ_self _) (fun i hi => by rw [va_up_ne _ _ (by decide), g1]; exact st.1 i hi) i hi
/-- the country and what was kept of it are C -/
def KI6 (C : Nat → Int32) (s : Nat → Nat → Int32) : Prop := (∀ i, i < 12720 → s 384 i = C i) ∧ ∀ i, i < 12720 → s 386 i = C i
theorem ki_up {s : Nat → Nat → Int32} {t : Nat} {g : Nat → Int32} (h : KI6 C s) (h1 : t ≠ 384) (h2 : t ≠ 386) : KI6 C (va_up s t g) := ⟨fun i hi => by rw [va_up_ne _ _ (Ne.symm h1)]; exact h.1 i hi, fun i hi => by rw [va_up_ne _ _ (Ne.symm h2)]; exact h.2 i hi⟩
theorem ki_next {x r : Int32} {s s1 : Nat → Nat → Int32} {U1 : Nat → Int32} {V1 : Nat → Int64} {m1 : Nat → Nat → Int64} {q1 : Nat → Nat → Option Nat} (h : KI6 C s) (e : g_X12_nextOrder x U V s sj sq = (r, U1, V1, s1, m1, q1)) : KI6 C s1 := by
  have f := g_X12_nextOrder_f (a0 := x) (I := U) (J := V) (ri := s) (rj := sj) (rq := sq)
  rw [e] at f
  exact ⟨fun i hi => by rw [show s1 384 = s 384 from f.2.2.1 384 (by decide)]; exact h.1 i hi, fun i hi => by rw [show s1 386 = s 386 from f.2.2.1 386 (by decide)]; exact h.2 i hi⟩
theorem ki_back {s : Nat → Nat → Int32} (h : ∀ i, i < 12720 → s 386 i = C i) : KI6 C (va_up s 384 (va_cpy (s 386) (s 384) 0 0 12720)) := ⟨fun i hi => by rw [va_up_self, cpy_v hi]; exact h i hi, fun i hi => by rw [va_up_ne _ _ (by decide)]; exact h i hi⟩
section ORD
variable {a0 a1 a2 xr x3 x4 : Int32} {k : Int32 → Int32 → (Nat → Int32) → (Nat → Nat → Int32) → (Nat → Nat → Int64) → Int32 × vM}
theorem or_nx {s : Nat → Nat → Int32} {z : Int32} (hk : ∀ x y I s m, KI6 C s → KC6 C (k x y I s m)) (h : KI6 C s) : KC6 C (bnI (g_X12_nextOrder xr U V s sj sq) fun (x : Int32) (_ : Nat → Int32) (_ : Nat → Int64) (r : Nat → Nat → Int32) (_ : Nat → Nat → Int64) (_ : Nat → Nat → Option Nat) => k z x U r sj) := by
  have hn := fun r U1 V1 s1 m1 q1 (e : g_X12_nextOrder xr U V s sj sq = (r, U1, V1, s1, m1, q1)) => ki_next h e
  generalize g_X12_nextOrder xr U V s sj sq = p at hn ⊢
  obtain ⟨r, U1, V1, s1, m1, q1⟩ := p
  exact hk _ _ _ _ _ (hn r U1 V1 s1 m1 q1 rfl)
theorem or_180 (hk : ∀ x y I s m, KI6 C s → KC6 C (k x y I s m)) : ∀ (n : Nat) (x : Int32) (s : Nat → Nat → Int32), KI6 C s → KC6 C (g_X12_order_L180 V sq xr k U sj x3 n x s) := by
  intro n
  induction n with
  | zero => intro x s h; exact h.1
  | succ n ih =>
    intro x s h
    rw [g_X12_order_L180_e]
    split
    · exact or_nx hk h
    · exact ih _ _ (ki_up h (by decide) (by decide))
theorem or_124 (h12 : a1.toInt ≤ 12) (hk : ∀ x y I s m, KI6 C s → KC6 C (k x y I s m)) : ∀ (n : Nat) (x : Int32) (U : Nat → Int32) (s : Nat → Nat → Int32) (m : Nat → Nat → Int64), 0 ≤ x.toInt → (12 - x.toInt).toNat < n → (∀ i, i < 12720 → s 386 i = C i) → KC6 C (g_X12_order_L124 a0 a1 V sq xr x3 k x4 n x U s m) := by
  intro n
  induction n with
  | zero => intro x _ _ _ _ h; exact absurd h (Nat.not_lt_zero _)
  | succ n ih =>
    intro x U s m h1 h2 h
    rw [g_X12_order_L124_e]
    by_cases d : a1 ≤ x
    · rw [if_pos d]
      have hb := ki_back h
      unfold bnI
      simp only [↓ap1_n]
      split
      · exact or_180 hk _ _ _ hb
      · split
        · exact or_nx hk hb
        · exact or_180 hk _ _ _ hb
    · rw [if_neg d]
      have d1 := Int32.lt_iff_toInt_lt.mp (Int32.not_le.mp d)
      have e1 := t1_i h1 d1 (by omega)
      have hm := fun U1 V1 s1 m1 q1 (e : g_X12_month a0 U V s m sq = (U1, V1, s1, m1, q1)) => mo_386 e h
      generalize g_X12_month a0 U V s m sq = p at hm ⊢
      obtain ⟨U1, V1, s1, m1, q1⟩ := p
      exact ih (x + Int32.ofInt 1) U1 s1 m1 (by omega) (by omega) (hm U1 V1 s1 m1 q1 rfl)
theorem or_88 (h12 : a1.toInt ≤ 12) (hk : ∀ x y I s m, KI6 C s → KC6 C (k x y I s m)) : ∀ (n : Nat) (x : Int32) (s : Nat → Nat → Int32), KI6 C s → KC6 C (g_X12_order_L88 a0 a1 V sq xr x3 U sj k n x s) := by
  intro n
  induction n with
  | zero => intro x s h; exact h.1
  | succ n ih =>
    intro x s h
    rw [g_X12_order_L88_e]
    split
    · exact or_124 h12 hk _ _ _ _ _ (by decide) (Nat.lt_succ_self _) h.2
    · exact ih _ _ (ki_up h (by decide) (by decide))
theorem or_80 (h12 : a1.toInt ≤ 12) : ∀ (n : Nat) (x y : Int32) (U : Nat → Int32) (s : Nat → Nat → Int32) (m : Nat → Nat → Int64), KI6 C s → KC6 C (g_X12_order_L80 a0 a1 a2 V sq xr n x y U s m) := by
  intro n
  induction n with
  | zero => intro x y U s m h; exact h.1
  | succ n ih =>
    intro x y U s m h
    rw [g_X12_order_L80_e]
    split
    · simp only [↓ap1_n]
      split
      · exact h.1
      · exact h.1
    · exact or_88 h12 (fun x y U s m h => ih x y U s m h) _ _ _ h
theorem or_48 (h12 : a1.toInt ≤ 12) : ∀ (n : Nat) (x : Int32) (s : Nat → Nat → Int32), KI6 C s → KC6 C (g_X12_order_L48 a0 a1 a2 U V sj sq xr n x s) := by
  intro n
  induction n with
  | zero => intro x s h; exact h.1
  | succ n ih =>
    intro x s h
    rw [g_X12_order_L48_e]
    split
    · exact or_80 h12 _ _ _ _ _ _ h
    · exact ih _ _ (ki_up h (by decide) (by decide))
theorem or_26 (h12 : a1.toInt ≤ 12) : KC6 (si 384) (g_X12_order_K26 a0 a1 a2 U V si sj sq) := by
  rw [g_X12_order_K26_e]
  have st := kc_st (si := si)
  simp only [↓ap1_n]
  refine or_48 h12 _ _ _ ⟨fun i _ => ?_, st.1⟩
  rw [st.2]
theorem order_kc : KC6 (si 384) (g_X12_order a0 a1 a2 U V si sj sq) := by
  rw [g_X12_order_e]
  obtain ⟨v, et, ti⟩ := isTime_b (a0 := a1) (k := 12) (a1 := a0) (U := U) (V := V) (si := si) (sj := sj) (sq := sq)
  rw [et]
  simp only [bnI_u]
  split
  · exact kc_no
  · next h =>
    have h12 : a1.toInt ≤ 12 := ti h
    split
    · exact or_26 h12
    · split
      · exact kc_no
      · exact or_26 h12
end ORD
end PU16
