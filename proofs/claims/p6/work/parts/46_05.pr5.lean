/-! ===== pure: pieces of the reference's parser ===== -/
section PR5
variable {J : Nat → Int64} {ri : Nat → Nat → Int32} {rj : Nat → Nat → Int64} {rq : Nat → Nat → Option Nat}
theorem emit_m {a b : Int32} {I : Nat → Int32} : ∃ (I' : Nat → Int32) (r' : Nat → Nat → Int32), g_X12_emit a b I J ri rj rq = (I', J, r', rj, rq) ∧ (∀ f, f ≠ 398 → I' f = I f) ∧ ∀ t, t ≠ 384 → r' t = ri t := by
  rw [g_X12_emit_e]
  try simp only [↓ap1_n]
  exact ⟨_, _, rfl, fun f hf => va_up_ne _ _ hf, fun t ht => by rw [va_up_ne _ _ ht, va_up_ne _ _ ht]⟩
theorem push_m {a : Int32} {I : Nat → Int32} {w : Nat} (hw : (I 401).toInt = (w : Int)) : g_X12_push a I J ri rj rq = (va_up I 401 (I 401 + 1), J, va_up ri 400 (upd (ri 400) w a), rj, rq) := by
  rw [g_X12_push_e]
  try simp only [↓ap1_n]
  rw [at_n hw]
/-! whole -/
def popW : List Int32 → List Int32
  | [] => []
  | x :: L => if x = 2 then popW L else x :: L
def cntW : List Int32 → Nat
  | [] => 0
  | x :: L => if x = 2 then 1 + cntW L else 0
theorem whole_L {w0 : Nat} : ∀ (m : Nat) (I : Nat → Int32) (r : Nat → Nat → Int32) (w : Nat), (I 401).toInt = (w : Int) → w < m → w ≤ 1000 → (cntW (stl (r 400) w) : Int) ≤ (I 402).toInt → (I 402).toInt ≤ 100 → ∃ (I' : Nat → Int32) (r' : Nat → Nat → Int32) (w' : Nat), g_X12_whole_L5 J rj rq m I r = (I', J, r', rj, rq) ∧ (I' 401).toInt = (w' : Int) ∧ stl (r 400) w' = popW (stl (r 400) w) ∧ (I' 402).toInt = (I 402).toInt - cntW (stl (r 400) w) ∧ (∀ f, f ≠ 398 → f ≠ 401 → f ≠ 402 → I' f = I f) ∧ ∀ t, t ≠ 384 → r' t = r t := by
  intro m
  induction m with
  | zero => intro I r w _ h; exact absurd h (Nat.not_lt_zero _)
  | succ m ih =>
    intro I r w hw hm hw3 hn h1
    rw [g_X12_whole_L5_e]
    try simp only [↓ap1_n]
    have k0 : (0 : Int32).toInt = ((0 : Nat) : Int) := by decide
    cases w with
    | zero =>
      rw [if_pos ((le_n hw k0).mpr (Nat.le_refl _))]
      exact ⟨I, r, 0, rfl, hw, rfl, by show _ = _ - ((0 : Nat) : Int); omega, fun _ _ _ _ => rfl, fun _ _ => rfl⟩
    | succ w =>
      rw [if_neg (show ¬ I 401 ≤ 0 from fun q => by have := (le_n hw k0).mp q; omega)]
      have y1 : (I 401 - 1).toInt = (w : Int) := by
        have := i_sub (x := I 401) (y := 1) rfl (show (1 : Int32).toInt = 1 by decide) (by omega) (by omega)
        omega
      have es : stl (r 400) (w + 1) = r 400 w :: stl (r 400) w := rfl
      rw [at_n y1]
      rw [es] at hn ⊢
      by_cases d : r 400 w = 2
      · have hc : cntW (r 400 w :: stl (r 400) w) = 1 + cntW (stl (r 400) w) := if_pos d
        have hp : popW (r 400 w :: stl (r 400) w) = popW (stl (r 400) w) := if_pos d
        rw [if_pos d, hc, hp]
        rw [hc] at hn
        have w2 : va_up I 401 (I 401 - 1) 402 = I 402 := va_up_ne _ _ (by decide)
        rw [w2]
        have y2 : (I 402 - 1).toInt = (I 402).toInt - 1 := i_sub rfl (show (1 : Int32).toInt = 1 by decide) (by omega) (by omega)
        obtain ⟨I4, r4, e1, e2, e3⟩ := emit_m (J := J) (ri := r) (rj := rj) (rq := rq) (a := 2) (b := 0) (I := va_up (va_up I 401 (I 401 - 1)) 402 (I 402 - 1))
        rw [bv_n e1]
        have h1' : (I4 401).toInt = (w : Int) := by rw [e2 401 (by decide), va_up_ne _ _ (show (401 : Nat) ≠ 402 by decide), va_up_self]; exact y1
        have h2' : (I4 402).toInt = (I 402).toInt - 1 := by rw [e2 402 (by decide), va_up_self]; exact y2
        have r400 : r4 400 = r 400 := e3 400 (by decide)
        obtain ⟨I', r', w', i1, i2, i3, i4, i5, i6⟩ := ih I4 r4 w h1' (by omega) (by omega) (by rw [r400, h2']; omega) (by omega)
        rw [r400] at i3 i4
        refine ⟨I', r', w', i1, i2, i3, by omega, fun f f1 f2 f3 => ?_, fun t ht => (i6 t ht).trans (e3 t ht)⟩
        rw [i5 f f1 f2 f3, e2 f f1, va_up_ne _ _ f3, va_up_ne _ _ f2]
      · have hc : cntW (r 400 w :: stl (r 400) w) = 0 := if_neg d
        have hp : popW (r 400 w :: stl (r 400) w) = r 400 w :: stl (r 400) w := if_neg d
        rw [if_neg d, hc, hp]
        exact ⟨I, r, w + 1, rfl, hw, rfl, by omega, fun _ _ _ _ => rfl, fun _ _ => rfl⟩
theorem whole_v {I : Nat → Int32} {w : Nat} (hw : (I 401).toInt = (w : Int)) (hw3 : w ≤ 1000) (hn : (cntW (stl (ri 400) w) : Int) ≤ (I 402).toInt) (h1 : (I 402).toInt ≤ 100) : ∃ (I' : Nat → Int32) (r' : Nat → Nat → Int32) (w' : Nat), g_X12_whole I J ri rj rq = (I', J, r', rj, rq) ∧ (I' 401).toInt = (w' : Int) ∧ stl (r' 400) w' = popW (stl (ri 400) w) ∧ (I' 402).toInt = (I 402).toInt - cntW (stl (ri 400) w) ∧ I' 403 = 1 ∧ (∀ f, f ≠ 398 → f ≠ 401 → f ≠ 402 → f ≠ 403 → I' f = I f) ∧ ∀ t, t ≠ 384 → r' t = ri t := by
  rw [g_X12_whole_e]
  try simp only [↓ap1_n]
  have z1 : va_up I 403 1 401 = I 401 := va_up_ne _ _ (by decide)
  have z2 : va_up I 403 1 402 = I 402 := va_up_ne _ _ (by decide)
  rw [z1]
  obtain ⟨I', r', w', i1, i2, i3, i4, i5, i6⟩ := whole_L (J := J) (rj := rj) (rq := rq) (w0 := 0) (((I 401).toInt - 0).toNat + 1) (va_up I 403 1) ri w (by rw [z1]; exact hw) (by omega) hw3 (by rw [z2]; exact hn) (by rw [z2]; exact h1)
  rw [z2] at i4
  exact ⟨I', r', w', i1, i2, by rw [i6 400 (by decide)]; exact i3, i4, by rw [i5 403 (by decide) (by decide) (by decide), va_up_self], fun f f1 f2 f3 f4 => (i5 f f1 f2 f3).trans (va_up_ne _ _ f4), i6⟩
/-! settle -/
def popM (a : Int32) : List Int32 → List Int32
  | [] => []
  | x :: L => if g_X12_isIn_x x a 6 = 0 then x :: L else popM a L
theorem setM_L {a : Int32} : ∀ (m : Nat) (I : Nat → Int32) (r : Nat → Nat → Int32) (w : Nat), (I 401).toInt = (w : Int) → w < m → w ≤ 1000 → ∃ (I' : Nat → Int32) (r' : Nat → Nat → Int32) (w' : Nat), g_X12_settle_L0 a J rj rq m I r = (I', J, r', rj, rq) ∧ (I' 401).toInt = (w' : Int) ∧ stl (r 400) w' = popM a (stl (r 400) w) ∧ (∀ f, f ≠ 398 → f ≠ 401 → I' f = I f) ∧ ∀ t, t ≠ 384 → r' t = r t := by
  intro m
  induction m with
  | zero => intro I r w _ h; exact absurd h (Nat.not_lt_zero _)
  | succ m ih =>
    intro I r w hw hm hw3
    rw [g_X12_settle_L0_e]
    try simp only [↓ap1_n]
    have k0 : (0 : Int32).toInt = ((0 : Nat) : Int) := by decide
    cases w with
    | zero =>
      rw [if_pos ((le_n hw k0).mpr (Nat.le_refl _))]
      exact ⟨I, r, 0, rfl, hw, rfl, fun _ _ _ => rfl, fun _ _ => rfl⟩
    | succ w =>
      rw [if_neg (show ¬ I 401 ≤ 0 from fun q => by have := (le_n hw k0).mp q; omega)]
      have y1 : (I 401 - 1).toInt = (w : Int) := by
        have := i_sub (x := I 401) (y := 1) rfl (show (1 : Int32).toInt = 1 by decide) (by omega) (by omega)
        omega
      have es : stl (r 400) (w + 1) = r 400 w :: stl (r 400) w := rfl
      rw [at_n y1]
      rw [es]
      by_cases d : g_X12_isIn_x (r 400 w) a 6 = 0
      · have hp : popM a (r 400 w :: stl (r 400) w) = r 400 w :: stl (r 400) w := if_pos d
        rw [if_pos d, hp]
        exact ⟨I, r, w + 1, rfl, hw, rfl, fun _ _ _ => rfl, fun _ _ => rfl⟩
      · have hp : popM a (r 400 w :: stl (r 400) w) = popM a (stl (r 400) w) := if_neg d
        rw [if_neg d, hp, va_up_self, at_n y1]
        obtain ⟨I4, r4, e1, e2, e3⟩ := emit_m (J := J) (ri := r) (rj := rj) (rq := rq) (a := r 400 w) (b := 0) (I := va_up I 401 (I 401 - 1))
        rw [bv_n e1]
        have r400 : r4 400 = r 400 := e3 400 (by decide)
        obtain ⟨I', r', w', i1, i2, i3, i4, i5⟩ := ih I4 r4 w (by rw [e2 401 (by decide), va_up_self]; exact y1) (by omega) (by omega)
        rw [r400] at i3
        exact ⟨I', r', w', i1, i2, i3, fun f f1 f2 => by rw [i4 f f1 f2, e2 f f1, va_up_ne _ _ f2], fun t ht => (i5 t ht).trans (e3 t ht)⟩
theorem setM_is {a : Int32} {I : Nat → Int32} {w : Nat} (hw : (I 401).toInt = (w : Int)) (hw3 : w ≤ 1000) : g_X12_settle a I J ri rj rq = g_X12_settle_L0 a J rj rq (w + 1) I ri := by
  rw [g_X12_settle_e, g_X12_settle_L0_e]
  try simp only [↓ap1_n]
  by_cases c : I 401 ≤ 0
  · rw [if_pos c, if_pos c]
  · rw [if_neg c, if_neg c]
    have w1 : 1 ≤ w := by
      have h9 : ¬ w ≤ 0 := fun y => c ((le_n hw (show (0 : Int32).toInt = ((0 : Nat) : Int) by decide)).mpr y)
      omega
    by_cases d : g_X12_isIn_x (ri 400 (I 401 - 1).toNatClampNeg) a 6 = 0
    · rw [if_pos d, if_pos d]
    · rw [if_neg d, if_neg d]
      obtain ⟨I3, r3, e1, e2, e3⟩ := emit_m (J := J) (rj := rj) (rq := rq) (ri := ri) (I := va_up I 401 (I 401 - 1)) (a := ri 400 (va_up I 401 (I 401 - 1) 401).toNatClampNeg) (b := 0)
      rw [bv_n e1, bv_n e1]
      have y1 : (I 401 - 1).toInt = (w : Int) - 1 := by
        have := i_sub (x := I 401) (y := 1) rfl (show (1 : Int32).toInt = 1 by decide) (by omega) (by omega)
        omega
      have h4 : (I3 401).toInt = (w : Int) - 1 := by rw [e2 401 (by decide), va_up_self]; exact y1
      rw [show ((I3 401).toInt - 0).toNat + 1 = w by omega]
theorem setM_v {a : Int32} {I : Nat → Int32} {w : Nat} (hw : (I 401).toInt = (w : Int)) (hw3 : w ≤ 1000) : ∃ (I' : Nat → Int32) (r' : Nat → Nat → Int32) (w' : Nat), g_X12_settle a I J ri rj rq = (I', J, r', rj, rq) ∧ (I' 401).toInt = (w' : Int) ∧ stl (r' 400) w' = popM a (stl (ri 400) w) ∧ (∀ f, f ≠ 398 → f ≠ 401 → I' f = I f) ∧ ∀ t, t ≠ 384 → r' t = ri t := by
  rw [setM_is hw hw3]
  obtain ⟨I', r', w', i1, i2, i3, i4, i5⟩ := setM_L (J := J) (rj := rj) (rq := rq) (a := a) (w + 1) I ri w hw (Nat.lt_succ_self _) hw3
  exact ⟨I', r', w', i1, i2, by rw [i5 400 (by decide)]; exact i3, i4, i5⟩
/-! hasParen, goesOn -/
theorem stl_mem {r : Nat → Int32} {x : Int32} : ∀ n, x ∈ stl r n ↔ ∃ j, j < n ∧ r j = x
  | 0 => ⟨fun h => (by cases h), fun ⟨j, h, _⟩ => absurd h (Nat.not_lt_zero _)⟩
  | n + 1 => by
    show x ∈ r n :: stl r n ↔ _
    rw [List.mem_cons, stl_mem n]
    constructor
    · rintro (h | ⟨j, h1, h2⟩)
      · exact ⟨n, Nat.lt_succ_self _, h.symm⟩
      · exact ⟨j, by omega, h2⟩
    · intro ⟨j, h1, h2⟩
      by_cases q : j = n
      · subst q; exact Or.inl h2.symm
      · exact Or.inr ⟨j, by omega, h2⟩
theorem hasP_L {I : Nat → Int32} {w : Nat} (hw : (I 401).toInt = (w : Int)) (hw3 : w ≤ 160) : ∀ (m : Nat) (x : Int32) (k : Nat), x.toInt = (k : Int) → k ≤ w → 160 - k < m → ((∃ j, k ≤ j ∧ j < w ∧ ri 400 j = 40) → g_X12_hasParen_L2 I J ri rj rq m x = (1, I, J, ri, rj, rq)) ∧ ((¬ ∃ j, k ≤ j ∧ j < w ∧ ri 400 j = 40) → g_X12_hasParen_L2 I J ri rj rq m x = (0, I, J, ri, rj, rq)) := by
  intro m
  induction m with
  | zero => intro x k _ _ h; exact absurd h (Nat.not_lt_zero _)
  | succ m ih =>
    intro x k hx hk hm
    rw [g_X12_hasParen_L2_e]
    try simp only [↓ap1_n]
    by_cases c : I 401 ≤ x
    · have c1 := (le_n hw hx).mp c
      rw [if_pos c]
      exact ⟨fun ⟨j, j1, j2, _⟩ => absurd j2 (by omega), fun _ => rfl⟩
    · have c1 : ¬ w ≤ k := fun q => c ((le_n hw hx).mpr q)
      rw [if_neg c, at_n hx]
      by_cases d : ri 400 k = 40
      · rw [if_pos d]
        exact ⟨fun _ => rfl, fun h => absurd ⟨k, Nat.le_refl _, by omega, d⟩ h⟩
      · rw [if_neg d]
        obtain ⟨a1, a2⟩ := ih (x + Int32.ofInt 1) (k + 1) (up_i hx (by omega)) (by omega) (by omega)
        have iff : (∃ j, k ≤ j ∧ j < w ∧ ri 400 j = 40) ↔ ∃ j, k + 1 ≤ j ∧ j < w ∧ ri 400 j = 40 := by
          constructor
          · intro ⟨j, j1, j2, j3⟩
            by_cases q : j = k
            · rw [q] at j3; exact absurd j3 d
            · exact ⟨j, by omega, j2, j3⟩
          · intro ⟨j, j1, j2, j3⟩
            exact ⟨j, by omega, j2, j3⟩
        exact ⟨fun h => a1 (iff.mp h), fun h => a2 (fun y => h (iff.mpr y))⟩
theorem hasP_1 {I : Nat → Int32} {w : Nat} (hw : (I 401).toInt = (w : Int)) (hw3 : w ≤ 160) (h : (40 : Int32) ∈ stl (ri 400) w) : g_X12_hasParen I J ri rj rq = (1, I, J, ri, rj, rq) := by
  rw [g_X12_hasParen_e]
  obtain ⟨j, j1, j2⟩ := (stl_mem w).mp h
  exact (hasP_L hw hw3 _ 0 0 (by decide) (Nat.zero_le _) (by decide)).1 ⟨j, Nat.zero_le _, j1, j2⟩
theorem hasP_0 {I : Nat → Int32} {w : Nat} (hw : (I 401).toInt = (w : Int)) (hw3 : w ≤ 160) (h : ¬ (40 : Int32) ∈ stl (ri 400) w) : g_X12_hasParen I J ri rj rq = (0, I, J, ri, rj, rq) := by
  rw [g_X12_hasParen_e]
  exact (hasP_L hw hw3 _ 0 0 (by decide) (Nat.zero_le _) (by decide)).2 (fun ⟨j, _, j1, j2⟩ => h ((stl_mem w).mpr ⟨j, j1, j2⟩))
/-- it goes on behind a ONE -/
def goC (c : Int32) (L : List Int32) : Prop := c = 25 ∨ c = 26 ∨ c = 27 ∨ c = 28 ∨ (c = 30 ∧ (40 : Int32) ∈ L)
theorem goes_1 {I : Nat → Int32} {c v : Int32} {w : Nat} (hT : TKF I J c v) (hw : (I 401).toInt = (w : Int)) (hw3 : w ≤ 160) (h : goC c (stl (ri 400) w)) : g_X12_goesOn I J ri rj rq = (1, I, J, ri, rj, rq) := by
  obtain ⟨t0, t18, t33, s19, s20, s21, s22, s23, s24, s25, s26, s27, s28, s29, s30, s31, s32, t2, tv, tw⟩ := hT
  rw [g_X12_goesOn_e]
  try simp only [↓ap1_n]
  by_cases q1 : I 393 = 43
  · rw [if_pos q1]
  rw [if_neg q1]
  by_cases q2 : I 393 = 45
  · rw [if_pos q2]
  rw [if_neg q2]
  by_cases q3 : I 393 = 42
  · rw [if_pos q3]
  rw [if_neg q3]
  by_cases q4 : I 393 = 47
  · rw [if_pos q4]
  rw [if_neg q4]
  rcases h with y | y | y | y | ⟨y, z⟩
  · exact absurd (s25.mpr y) q1
  · exact absurd (s26.mpr y) q2
  · exact absurd (s27.mpr y) q3
  · exact absurd (s28.mpr y) q4
  · rw [if_pos (s30.mpr y), bn_n (hasP_1 hw hw3 z), if_neg (show ¬ (1 : Int32) = 0 by decide)]
theorem goes_0 {I : Nat → Int32} {c v : Int32} {w : Nat} (hT : TKF I J c v) (hw : (I 401).toInt = (w : Int)) (hw3 : w ≤ 160) (h : ¬ goC c (stl (ri 400) w)) : g_X12_goesOn I J ri rj rq = (0, I, J, ri, rj, rq) := by
  obtain ⟨t0, t18, t33, s19, s20, s21, s22, s23, s24, s25, s26, s27, s28, s29, s30, s31, s32, t2, tv, tw⟩ := hT
  rw [g_X12_goesOn_e]
  try simp only [↓ap1_n]
  rw [if_neg (fun q => h (Or.inl (s25.mp q))), if_neg (show ¬ I 393 = 45 from fun q => h (Or.inr (Or.inl (s26.mp q)))), if_neg (show ¬ I 393 = 42 from fun q => h (Or.inr (Or.inr (Or.inl (s27.mp q))))), if_neg (show ¬ I 393 = 47 from fun q => h (Or.inr (Or.inr (Or.inr (Or.inl (s28.mp q))))))]
  by_cases q : I 393 = 41
  · rw [if_pos q, bn_n (hasP_0 hw hw3 (fun y => h (Or.inr (Or.inr (Or.inr (Or.inr ⟨s30.mp q, y⟩)))))), if_pos (show (0 : Int32) = 0 from rfl)]
  · rw [if_neg q]
/-- the number of a NAME, -1 for others -/
def nmC (c : Int32) : Int32 := if c = 12 then 0 else if c = 13 then 1 else if c = 14 then 2 else if c = 15 then 3 else if c = 16 then 4 else if c = 17 then 5 else -1
theorem nmC_ge {c : Int32} (h : 12 ≤ c.toInt ∧ c.toInt ≤ 17) : ¬ nmC c < 0 := by
  have e : c = 12 ∨ c = 13 ∨ c = 14 ∨ c = 15 ∨ c = 16 ∨ c = 17 := by
    have k : ∀ x : Int32, c.toInt = x.toInt → c = x := fun x y => Int32.toInt_inj.mp y
    have d : c.toInt = 12 ∨ c.toInt = 13 ∨ c.toInt = 14 ∨ c.toInt = 15 ∨ c.toInt = 16 ∨ c.toInt = 17 := by omega
    rcases d with d | d | d | d | d | d
    · exact Or.inl (k 12 d)
    · exact Or.inr (Or.inl (k 13 d))
    · exact Or.inr (Or.inr (Or.inl (k 14 d)))
    · exact Or.inr (Or.inr (Or.inr (Or.inl (k 15 d))))
    · exact Or.inr (Or.inr (Or.inr (Or.inr (Or.inl (k 16 d)))))
    · exact Or.inr (Or.inr (Or.inr (Or.inr (Or.inr (k 17 d)))))
  rcases e with e | e | e | e | e | e <;> subst e <;> decide
theorem nmC_lt {c : Int32} (h : ¬ (12 ≤ c.toInt ∧ c.toInt ≤ 17)) : nmC c < 0 := by
  have k : ∀ x : Int32, 12 ≤ x.toInt ∧ x.toInt ≤ 17 → ¬ c = x := fun x y z => h (by rw [z]; exact y)
  unfold nmC
  rw [if_neg (k 12 (by decide)), if_neg (k 13 (by decide)), if_neg (k 14 (by decide)), if_neg (k 15 (by decide)), if_neg (k 16 (by decide)), if_neg (k 17 (by decide))]
  decide
/-- the number of a sort, 0 for others -/
def srC (c : Int32) : Int32 := if c = 0 then 1 else if c = 1 then 2 else if c = 2 then 3 else if c = 3 then 4 else if c = 4 then 5 else if c = 5 then 6 else if c = 6 then 7 else if c = 7 then 8 else if c = 8 then 9 else 0
theorem name_x {I : Nat → Int32} {c v : Int32} (hT : TKF I J c v) : g_X12_nameOf_x I J ri rj rq = (nmC c, I, J, ri, rj, rq) := by
  obtain ⟨t0, t18, t33, s19, s20, s21, s22, s23, s24, s25, s26, s27, s28, s29, s30, s31, s32, t2, tv, tw⟩ := hT
  unfold nmC
  rw [g_X12_nameOf_x_e]
  try simp only [↓ap1_n]
  by_cases q : I 393 = 2
  · obtain ⟨w0, w1, w2, w3, w4, w5, w6, w7, w8, w9, w10, w11, w12, w13, w14, w15, w16, w17⟩ := tw q
    rw [if_pos q]
    have e12 : lg_cmp (J 395) (g_X12_w3_x 97 103 101) = 0 ↔ c = 12 := by
      rw [cmpN, show g_X12_w3_x 97 103 101 = lN 6383461 from by decide +kernel]
      exact w12
    have e13 : lg_cmp (J 395) (g_X12_w3_x 107 105 110) = 0 ↔ c = 13 := by
      rw [cmpN, show g_X12_w3_x 107 105 110 = lN 7039342 from by decide +kernel]
      exact w13
    have e14 : lg_cmp (J 395) (g_X12_w5_x 99 114 97 102 116) = 0 ↔ c = 14 := by
      rw [cmpN, show g_X12_w5_x 99 114 97 102 116 = lN 427120748148 from by decide +kernel]
      exact w14
    have e15 : lg_cmp (J 395) (g_X12_w5_x 112 108 97 99 101) = 0 ↔ c = 15 := by
      rw [cmpN, show g_X12_w5_x 112 108 97 99 101 = lN 482854658917 from by decide +kernel]
      exact w15
    have e16 : lg_cmp (J 395) (g_X12_w5_x 109 111 110 116 104) = 0 ↔ c = 16 := by
      rw [cmpN, show g_X12_w5_x 109 111 110 116 104 = lN 470020945000 from by decide +kernel]
      exact w16
    have e17 : lg_cmp (J 395) (g_X12_w5_x 117 110 100 101 114) = 0 ↔ c = 17 := by
      rw [cmpN, show g_X12_w5_x 117 110 100 101 114 = lN 504363246962 from by decide +kernel]
      exact w17
    by_cases y12 : c = 12
    · rw [if_pos (e12.mpr y12), if_pos y12]
    rw [if_neg (fun z => y12 (e12.mp z)), if_neg y12]
    by_cases y13 : c = 13
    · rw [if_pos (e13.mpr y13), if_pos y13]
    rw [if_neg (fun z => y13 (e13.mp z)), if_neg y13]
    by_cases y14 : c = 14
    · rw [if_pos (e14.mpr y14), if_pos y14]
    rw [if_neg (fun z => y14 (e14.mp z)), if_neg y14]
    by_cases y15 : c = 15
    · rw [if_pos (e15.mpr y15), if_pos y15]
    rw [if_neg (fun z => y15 (e15.mp z)), if_neg y15]
    by_cases y16 : c = 16
    · rw [if_pos (e16.mpr y16), if_pos y16]
    rw [if_neg (fun z => y16 (e16.mp z)), if_neg y16]
    by_cases y17 : c = 17
    · rw [if_pos (e17.mpr y17), if_pos y17]
    rw [if_neg (fun z => y17 (e17.mp z)), if_neg y17]
  · have nc : ∀ k : Int32, 0 ≤ k.toInt → k.toInt ≤ 17 → ¬ c = k := fun k k1 k2 y => q (t2.mpr (Or.inl ⟨by rw [y]; exact k1, by rw [y]; exact k2⟩))
    rw [if_neg q, if_neg (nc 12 (by decide) (by decide)), if_neg (nc 13 (by decide) (by decide)), if_neg (nc 14 (by decide) (by decide)), if_neg (nc 15 (by decide) (by decide)), if_neg (nc 16 (by decide) (by decide)), if_neg (nc 17 (by decide) (by decide))]
theorem name_d {I : Nat → Int32} {c v : Int32} (hT : TKF I J c v) : g_X12_nameOf_d I J ri rj rq = (nmC c, I, J, ri, rj, rq) := by
  obtain ⟨t0, t18, t33, s19, s20, s21, s22, s23, s24, s25, s26, s27, s28, s29, s30, s31, s32, t2, tv, tw⟩ := hT
  unfold nmC
  rw [g_X12_nameOf_d_e]
  try simp only [↓ap1_n]
  by_cases q : I 393 = 2
  · obtain ⟨w0, w1, w2, w3, w4, w5, w6, w7, w8, w9, w10, w11, w12, w13, w14, w15, w16, w17⟩ := tw q
    rw [if_pos q]
    have e12 : lg_cmp (J 395) (g_X12_w3_d 97 103 101) = 0 ↔ c = 12 := by
      rw [cmpN, show g_X12_w3_d 97 103 101 = lN 6383461 from by decide +kernel]
      exact w12
    have e13 : lg_cmp (J 395) (g_X12_w3_d 107 105 110) = 0 ↔ c = 13 := by
      rw [cmpN, show g_X12_w3_d 107 105 110 = lN 7039342 from by decide +kernel]
      exact w13
    have e14 : lg_cmp (J 395) (g_X12_w5_d 99 114 97 102 116) = 0 ↔ c = 14 := by
      rw [cmpN, show g_X12_w5_d 99 114 97 102 116 = lN 427120748148 from by decide +kernel]
      exact w14
    have e15 : lg_cmp (J 395) (g_X12_w5_d 112 108 97 99 101) = 0 ↔ c = 15 := by
      rw [cmpN, show g_X12_w5_d 112 108 97 99 101 = lN 482854658917 from by decide +kernel]
      exact w15
    have e16 : lg_cmp (J 395) (g_X12_w5_d 109 111 110 116 104) = 0 ↔ c = 16 := by
      rw [cmpN, show g_X12_w5_d 109 111 110 116 104 = lN 470020945000 from by decide +kernel]
      exact w16
    have e17 : lg_cmp (J 395) (g_X12_w5_d 117 110 100 101 114) = 0 ↔ c = 17 := by
      rw [cmpN, show g_X12_w5_d 117 110 100 101 114 = lN 504363246962 from by decide +kernel]
      exact w17
    by_cases y12 : c = 12
    · rw [if_pos (e12.mpr y12), if_pos y12]
    rw [if_neg (fun z => y12 (e12.mp z)), if_neg y12]
    by_cases y13 : c = 13
    · rw [if_pos (e13.mpr y13), if_pos y13]
    rw [if_neg (fun z => y13 (e13.mp z)), if_neg y13]
    by_cases y14 : c = 14
    · rw [if_pos (e14.mpr y14), if_pos y14]
    rw [if_neg (fun z => y14 (e14.mp z)), if_neg y14]
    by_cases y15 : c = 15
    · rw [if_pos (e15.mpr y15), if_pos y15]
    rw [if_neg (fun z => y15 (e15.mp z)), if_neg y15]
    by_cases y16 : c = 16
    · rw [if_pos (e16.mpr y16), if_pos y16]
    rw [if_neg (fun z => y16 (e16.mp z)), if_neg y16]
    by_cases y17 : c = 17
    · rw [if_pos (e17.mpr y17), if_pos y17]
    rw [if_neg (fun z => y17 (e17.mp z)), if_neg y17]
  · have nc : ∀ k : Int32, 0 ≤ k.toInt → k.toInt ≤ 17 → ¬ c = k := fun k k1 k2 y => q (t2.mpr (Or.inl ⟨by rw [y]; exact k1, by rw [y]; exact k2⟩))
    rw [if_neg q, if_neg (nc 12 (by decide) (by decide)), if_neg (nc 13 (by decide) (by decide)), if_neg (nc 14 (by decide) (by decide)), if_neg (nc 15 (by decide) (by decide)), if_neg (nc 16 (by decide) (by decide)), if_neg (nc 17 (by decide) (by decide))]
theorem sort_m {I : Nat → Int32} {c v : Int32} (hT : TKF I J c v) : g_X12_sortOf I J ri rj rq = (srC c, I, J, ri, rj, rq) := by
  obtain ⟨t0, t18, t33, s19, s20, s21, s22, s23, s24, s25, s26, s27, s28, s29, s30, s31, s32, t2, tv, tw⟩ := hT
  unfold srC
  rw [g_X12_sortOf_e]
  try simp only [↓ap1_n]
  by_cases q : I 393 = 2
  · obtain ⟨w0, w1, w2, w3, w4, w5, w6, w7, w8, w9, w10, w11, w12, w13, w14, w15, w16, w17⟩ := tw q
    rw [if_pos q]
    have e0 : lg_cmp (J 395) (g_X12_w5_d 108 97 115 116 115) = 0 ↔ c = 0 := by
      rw [cmpN, show g_X12_w5_d 108 97 115 116 115 = lN 465491424371 from by decide +kernel]
      exact w0
    have e1 : lg_cmp (J 395) (g_X12_w6_x 112 101 111 112 108 101) = 0 ↔ c = 1 := by
      rw [cmpN, show g_X12_w6_x 112 101 111 112 108 101 = lN 123580963646565 from by decide +kernel]
      exact w1
    have e2 : lg_cmp (J 395) (g_X12_w3_d 109 97 121) = 0 ↔ c = 2 := by
      rw [cmpN, show g_X12_w3_d 109 97 121 = lN 7168377 from by decide +kernel]
      exact w2
    have e3 : lg_cmp (J 395) (g_X12_w4_d 118 111 116 101) = 0 ↔ c = 3 := by
      rw [cmpN, show g_X12_w4_d 118 111 116 101 = lN 1987015781 from by decide +kernel]
      exact w3
    have e4 : lg_cmp (J 395) (g_X12_w5_d 111 114 100 101 114) = 0 ↔ c = 4 := by
      rw [cmpN, show g_X12_w5_d 111 114 100 101 114 = lN 478660552050 from by decide +kernel]
      exact w4
    have e5 : lg_cmp (J 395) (g_X12_w4_d 104 101 105 114) = 0 ↔ c = 5 := by
      rw [cmpN, show g_X12_w4_d 104 101 105 114 = lN 1751476594 from by decide +kernel]
      exact w5
    have e6 : lg_cmp (J 395) (g_X12_w6_x 99 111 117 110 99 105 <<< ((8 : Int32).toInt64 &&& 63) ||| 108) = 0 ↔ c = 6 := by
      rw [cmpN, show g_X12_w6_x 99 111 117 110 99 105 <<< ((8 : Int32).toInt64 &&& 63) ||| 108 = lN 27988572848220524 from by decide +kernel]
      exact w6
    have e7 : lg_cmp (J 395) (g_X12_w3_d 102 105 120) = 0 ↔ c = 7 := by
      rw [cmpN, show g_X12_w3_d 102 105 120 = lN 6711672 from by decide +kernel]
      exact w7
    have e8 : lg_cmp (J 395) (g_X12_w5_d 108 101 97 118 101) = 0 ↔ c = 8 := by
      rw [cmpN, show g_X12_w5_d 108 101 97 118 101 = lN 465557354085 from by decide +kernel]
      exact w8
    by_cases y0 : c = 0
    · rw [if_pos (e0.mpr y0), if_pos y0]
    rw [if_neg (fun z => y0 (e0.mp z)), if_neg y0]
    by_cases y1 : c = 1
    · rw [if_pos (e1.mpr y1), if_pos y1]
    rw [if_neg (fun z => y1 (e1.mp z)), if_neg y1]
    by_cases y2 : c = 2
    · rw [if_pos (e2.mpr y2), if_pos y2]
    rw [if_neg (fun z => y2 (e2.mp z)), if_neg y2]
    by_cases y3 : c = 3
    · rw [if_pos (e3.mpr y3), if_pos y3]
    rw [if_neg (fun z => y3 (e3.mp z)), if_neg y3]
    by_cases y4 : c = 4
    · rw [if_pos (e4.mpr y4), if_pos y4]
    rw [if_neg (fun z => y4 (e4.mp z)), if_neg y4]
    by_cases y5 : c = 5
    · rw [if_pos (e5.mpr y5), if_pos y5]
    rw [if_neg (fun z => y5 (e5.mp z)), if_neg y5]
    by_cases y6 : c = 6
    · rw [if_pos (e6.mpr y6), if_pos y6]
    rw [if_neg (fun z => y6 (e6.mp z)), if_neg y6]
    by_cases y7 : c = 7
    · rw [if_pos (e7.mpr y7), if_pos y7]
    rw [if_neg (fun z => y7 (e7.mp z)), if_neg y7]
    by_cases y8 : c = 8
    · rw [if_pos (e8.mpr y8), if_pos y8]
    rw [if_neg (fun z => y8 (e8.mp z)), if_neg y8]
  · have nc : ∀ k : Int32, 0 ≤ k.toInt → k.toInt ≤ 17 → ¬ c = k := fun k k1 k2 y => q (t2.mpr (Or.inl ⟨by rw [y]; exact k1, by rw [y]; exact k2⟩))
    rw [if_neg q, if_neg (nc 0 (by decide) (by decide)), if_neg (nc 1 (by decide) (by decide)), if_neg (nc 2 (by decide) (by decide)), if_neg (nc 3 (by decide) (by decide)), if_neg (nc 4 (by decide) (by decide)), if_neg (nc 5 (by decide) (by decide)), if_neg (nc 6 (by decide) (by decide)), if_neg (nc 7 (by decide) (by decide)), if_neg (nc 8 (by decide) (by decide))]
theorem word_not {I : Nat → Int32} {c v : Int32} (hT : TKF I J c v) : g_X12_isWord_x (g_X12_w3_x 110 111 116) I J ri rj rq = (if c = 11 then 1 else 0, I, J, ri, rj, rq) := by
  obtain ⟨t0, t18, t33, s19, s20, s21, s22, s23, s24, s25, s26, s27, s28, s29, s30, s31, s32, t2, tv, tw⟩ := hT
  rw [g_X12_isWord_x_e]
  try simp only [↓ap1_n]
  by_cases q : I 393 = 2
  · obtain ⟨w0, w1, w2, w3, w4, w5, w6, w7, w8, w9, w10, w11, w12, w13, w14, w15, w16, w17⟩ := tw q
    have e : lg_cmp (J 395) (g_X12_w3_x 110 111 116) = 0 ↔ c = 11 := by
      rw [cmpN, show g_X12_w3_x 110 111 116 = lN 7237492 from by decide +kernel]
      exact w11
    rw [if_pos q]
    by_cases y : c = 11
    · rw [if_pos (e.mpr y), if_pos y]
    · rw [if_neg (fun z => y (e.mp z)), if_neg y]
  · rw [if_neg q, if_neg (show ¬ c = 11 from fun y => q (t2.mpr (Or.inl ⟨by rw [y]; decide, by rw [y]; decide⟩)))]
theorem word_and {I : Nat → Int32} {c v : Int32} (hT : TKF I J c v) : g_X12_isWord_x (g_X12_w3_x 97 110 100) I J ri rj rq = (if c = 10 then 1 else 0, I, J, ri, rj, rq) := by
  obtain ⟨t0, t18, t33, s19, s20, s21, s22, s23, s24, s25, s26, s27, s28, s29, s30, s31, s32, t2, tv, tw⟩ := hT
  rw [g_X12_isWord_x_e]
  try simp only [↓ap1_n]
  by_cases q : I 393 = 2
  · obtain ⟨w0, w1, w2, w3, w4, w5, w6, w7, w8, w9, w10, w11, w12, w13, w14, w15, w16, w17⟩ := tw q
    have e : lg_cmp (J 395) (g_X12_w3_x 97 110 100) = 0 ↔ c = 10 := by
      rw [cmpN, show g_X12_w3_x 97 110 100 = lN 6385252 from by decide +kernel]
      exact w10
    rw [if_pos q]
    by_cases y : c = 10
    · rw [if_pos (e.mpr y), if_pos y]
    · rw [if_neg (fun z => y (e.mp z)), if_neg y]
  · rw [if_neg q, if_neg (show ¬ c = 10 from fun y => q (t2.mpr (Or.inl ⟨by rw [y]; decide, by rw [y]; decide⟩)))]
theorem word_or {I : Nat → Int32} {c v : Int32} (hT : TKF I J c v) : (I 393 = 2 ∧ lg_cmp (J 395) 28530 = 0) ↔ c = 9 := by
  obtain ⟨t0, t18, t33, s19, s20, s21, s22, s23, s24, s25, s26, s27, s28, s29, s30, s31, s32, t2, tv, tw⟩ := hT
  constructor
  · intro ⟨q, e⟩
    obtain ⟨w0, w1, w2, w3, w4, w5, w6, w7, w8, w9, w10, w11, w12, w13, w14, w15, w16, w17⟩ := tw q
    exact w9.mp ((cmpN _ _).mp e)
  · intro y
    have q : I 393 = 2 := t2.mpr (Or.inl ⟨by rw [y]; decide, by rw [y]; decide⟩)
    obtain ⟨w0, w1, w2, w3, w4, w5, w6, w7, w8, w9, w10, w11, w12, w13, w14, w15, w16, w17⟩ := tw q
    exact ⟨q, (cmpN _ _).mpr (w9.mpr y)⟩
/-- which comparison it is, -1 for others -/
def cmC (c : Int32) : Int32 := if c = 19 then 10 else if c = 20 then 11 else if c = 21 then 12 else if c = 22 then 13 else if c = 23 then 14 else if c = 24 then 15 else -1
theorem comp_m {I : Nat → Int32} {c v : Int32} (hT : TKF I J c v) : g_X12_compareOf I J ri rj rq = (cmC c, I, J, ri, rj, rq) := by
  obtain ⟨t0, t18, t33, s19, s20, s21, s22, s23, s24, s25, s26, s27, s28, s29, s30, s31, s32, t2, tv, tw⟩ := hT
  unfold cmC
  rw [g_X12_compareOf_e]
  try simp only [↓ap1_n]
  by_cases y19 : c = 19
  · rw [if_pos (s19.mpr y19), if_pos y19]
  rw [if_neg (show ¬ I 393 = 60 from fun z => y19 (s19.mp z)), if_neg y19]
  by_cases y20 : c = 20
  · rw [if_pos (s20.mpr y20), if_pos y20]
  rw [if_neg (show ¬ I 393 = 4 from fun z => y20 (s20.mp z)), if_neg y20]
  by_cases y21 : c = 21
  · rw [if_pos (s21.mpr y21), if_pos y21]
  rw [if_neg (show ¬ I 393 = 62 from fun z => y21 (s21.mp z)), if_neg y21]
  by_cases y22 : c = 22
  · rw [if_pos (s22.mpr y22), if_pos y22]
  rw [if_neg (show ¬ I 393 = 5 from fun z => y22 (s22.mp z)), if_neg y22]
  by_cases y23 : c = 23
  · rw [if_pos (s23.mpr y23), if_pos y23]
  rw [if_neg (show ¬ I 393 = 61 from fun z => y23 (s23.mp z)), if_neg y23]
  by_cases y24 : c = 24
  · rw [if_pos (s24.mpr y24), if_pos y24]
  rw [if_neg (show ¬ I 393 = 35 from fun z => y24 (s24.mp z)), if_neg y24]
end PR5
/-! ===== pure: what waits in the class, what is piled in the reference ===== -/
section PR6
/-- the class's sign of the reference's -/
def mpc (x : Int32) : Int32 := if x = 40 then 29 else if x = 2 then 35 else if x = 3 then 25 else if x = 4 then 26 else if x = 5 then 27 else 28
/-- the pile's order: 1 below * and /, 2 below + and -, 0 else -/
def okP : Nat → List Int32 → Prop
  | _, [] => True
  | q, x :: L => (x = 40 ∧ okP 0 L) ∨ (x = 2 ∧ q = 0 ∧ okP 0 L) ∨ ((x = 5 ∨ x = 6) ∧ q = 0 ∧ okP 1 L) ∨ ((x = 3 ∨ x = 4) ∧ q ≤ 1 ∧ okP 2 L)
def cn40 : List Int32 → Nat
  | [] => 0
  | x :: L => (if x = 40 then 1 else 0) + cn40 L
def cn2 : List Int32 → Nat
  | [] => 0
  | x :: L => (if x = 2 then 1 else 0) + cn2 L
/-- no - of one ONE at the top -/
def no2 : List Int32 → Prop
  | [] => True
  | x :: _ => x ≠ 2
theorem okP_len : ∀ (P : List Int32) (q : Nat), q ≤ 2 → okP q P → P.length + q ≤ 3 * cn40 P + cn2 P + 2
  | [], q, hq, _ => by show 0 + q ≤ 0 + 0 + 2; omega
  | x :: P, q, hq, h => by
    show P.length + 1 + q ≤ 3 * ((if x = 40 then 1 else 0) + cn40 P) + ((if x = 2 then 1 else 0) + cn2 P) + 2
    rcases h with ⟨a, b⟩ | ⟨a, a2, b⟩ | ⟨a, a2, b⟩ | ⟨a, a2, b⟩
    · have := okP_len P 0 (by decide) b
      rw [if_pos a]; omega
    · have := okP_len P 0 (by decide) b
      rw [if_pos a]; omega
    · have := okP_len P 1 (by decide) b
      omega
    · have := okP_len P 2 (by decide) b
      omega
theorem mp_40 : mpc 40 = 29 := by decide
theorem mp_2 : mpc 2 = 35 := by decide
theorem rk_op {x : Int32} (h : x = 3 ∨ x = 4 ∨ x = 5 ∨ x = 6) : mpc x ≠ 11 ∧ mpc x ≠ 35 ∧ ¬ g_X4_rank (mpc x) < 5 ∧ ¬ g_X4_rank (mpc x) < 1 ∧ g_X12_isIn_x x 3 6 ≠ 0 := by
  rcases h with h | h | h | h <;> subst h <;> decide
theorem rk_hi {x : Int32} (h : x = 5 ∨ x = 6) : ¬ g_X4_rank (mpc x) < 6 ∧ g_X12_isIn_x x 5 6 ≠ 0 := by
  rcases h with h | h <;> subst h <;> decide
theorem rk_lo {x : Int32} (h : x = 3 ∨ x = 4) : g_X4_rank (mpc x) < 6 ∧ g_X12_isIn_x x 5 6 = 0 := by
  rcases h with h | h <;> subst h <;> decide
/-- B stops a settle of a sum -/
def stB (B : List Int32) : Prop := match B with
  | [] => True
  | x :: _ => g_X4_rank x < 5 ∧ g_X4_rank x < 6
theorem popR_c {a x : Int32} {L : List Int32} (h : ¬ g_X4_rank x < a) : popR a (x :: L) = popR a L := if_neg h
theorem popR_s {a x : Int32} {L : List Int32} (h : g_X4_rank x < a) : popR a (x :: L) = x :: L := if_pos h
theorem popN_c {a x : Int32} {L : List Int32} (h : ¬ g_X4_rank x < a) : popN a (x :: L) = (if x = 11 ∨ x = 35 then 1 else 0) + popN a L := if_neg h
theorem popN_s {a x : Int32} {L : List Int32} (h : g_X4_rank x < a) : popN a (x :: L) = 0 := if_pos h
theorem popM_c {a x : Int32} {L : List Int32} (h : g_X12_isIn_x x a 6 ≠ 0) : popM a (x :: L) = popM a L := if_neg h
theorem popM_s {a x : Int32} {L : List Int32} (h : g_X12_isIn_x x a 6 = 0) : popM a (x :: L) = x :: L := if_pos h
theorem c40_n {x : Int32} {L : List Int32} (h : x ≠ 40) : cn40 (x :: L) = cn40 L := by show (if x = 40 then 1 else 0) + cn40 L = _; rw [if_neg h, Nat.zero_add]
theorem c2_n {x : Int32} {L : List Int32} (h : x ≠ 2) : cn2 (x :: L) = cn2 L := by show (if x = 2 then 1 else 0) + cn2 L = _; rw [if_neg h, Nat.zero_add]
theorem opr_n {x : Int32} (h : x = 3 ∨ x = 4 ∨ x = 5 ∨ x = 6) : x ≠ 40 ∧ x ≠ 2 := by
  rcases h with h | h | h | h <;> subst h <;> decide
/-- + and - settle -/
theorem pop_5 {B : List Int32} (hB : stB B) : ∀ (P : List Int32) (q : Nat), okP q P → (q ≠ 0 ∨ no2 P) → popR 5 (P.map mpc ++ B) = (popM 3 P).map mpc ++ B ∧ popN 5 (P.map mpc ++ B) = 0 ∧ okP 2 (popM 3 P) ∧ no2 (popM 3 P) ∧ cn40 (popM 3 P) = cn40 P ∧ cn2 (popM 3 P) = cn2 P
  | [], q, _, _ => by
    refine ⟨?_, ?_, trivial, trivial, rfl, rfl⟩
    · show popR 5 B = B
      cases B with
      | nil => rfl
      | cons x B => exact popR_s hB.1
    · show popN 5 B = 0
      cases B with
      | nil => rfl
      | cons x B => exact popN_s hB.1
  | x :: P, q, h, hq => by
    have op : ∀ q2 : Nat, q2 ≠ 0 → (x = 3 ∨ x = 4 ∨ x = 5 ∨ x = 6) → okP q2 P → popR 5 ((x :: P).map mpc ++ B) = (popM 3 (x :: P)).map mpc ++ B ∧ popN 5 ((x :: P).map mpc ++ B) = 0 ∧ okP 2 (popM 3 (x :: P)) ∧ no2 (popM 3 (x :: P)) ∧ cn40 (popM 3 (x :: P)) = cn40 (x :: P) ∧ cn2 (popM 3 (x :: P)) = cn2 (x :: P) := fun q2 h2 hx ho => by
      obtain ⟨r1, r2, r3, r4, r5⟩ := rk_op hx
      obtain ⟨i1, i2, i3, i4, i5, i6⟩ := pop_5 hB P q2 ho (Or.inl h2)
      have e : (x :: P).map mpc ++ B = mpc x :: (P.map mpc ++ B) := rfl
      rw [e, popR_c r3, popN_c r3, popM_c r5, if_neg (show ¬ (mpc x = 11 ∨ mpc x = 35) from fun y => by rcases y with z | z; exact r1 z; exact r2 z), c40_n (opr_n hx).1, c2_n (opr_n hx).2, Nat.zero_add]
      exact ⟨i1, i2, i3, i4, i5, i6⟩
    rcases h with ⟨a, b⟩ | ⟨a, a2, b⟩ | ⟨a, a2, b⟩ | ⟨a, a2, b⟩
    · have e : (x :: P).map mpc ++ B = mpc x :: (P.map mpc ++ B) := rfl
      have r : g_X4_rank (mpc x) < 5 := by rw [a]; decide
      have z : g_X12_isIn_x x 3 6 = 0 := by rw [a]; decide
      rw [e, popR_s r, popN_s r, popM_s z]
      exact ⟨rfl, rfl, Or.inl ⟨a, b⟩, by show x ≠ 2; rw [a]; decide, rfl, rfl⟩
    · rcases hq with y | y
      · exact absurd a2 y
      · exact absurd a y
    · exact op 1 (by decide) (by rcases a with z | z; exact Or.inr (Or.inr (Or.inl z)); exact Or.inr (Or.inr (Or.inr z))) b
    · exact op 2 (by decide) (by rcases a with z | z; exact Or.inl z; exact Or.inr (Or.inl z)) b
/-- * and / settle -/
theorem pop_6 {B : List Int32} (hB : stB B) : ∀ (P : List Int32) (q : Nat), okP q P → (q ≠ 0 ∨ no2 P) → popR 6 (P.map mpc ++ B) = (popM 5 P).map mpc ++ B ∧ popN 6 (P.map mpc ++ B) = 0 ∧ okP 1 (popM 5 P) ∧ no2 (popM 5 P) ∧ cn40 (popM 5 P) = cn40 P ∧ cn2 (popM 5 P) = cn2 P
  | [], q, _, _ => by
    refine ⟨?_, ?_, trivial, trivial, rfl, rfl⟩
    · show popR 6 B = B
      cases B with
      | nil => rfl
      | cons x B => exact popR_s hB.2
    · show popN 6 B = 0
      cases B with
      | nil => rfl
      | cons x B => exact popN_s hB.2
  | x :: P, q, h, hq => by
    have e : (x :: P).map mpc ++ B = mpc x :: (P.map mpc ++ B) := rfl
    rcases h with ⟨a, b⟩ | ⟨a, a2, b⟩ | ⟨a, a2, b⟩ | ⟨a, a2, b⟩
    · have r : g_X4_rank (mpc x) < 6 := by rw [a]; decide
      have z : g_X12_isIn_x x 5 6 = 0 := by rw [a]; decide
      rw [e, popR_s r, popN_s r, popM_s z]
      exact ⟨rfl, rfl, Or.inl ⟨a, b⟩, by show x ≠ 2; rw [a]; decide, rfl, rfl⟩
    · rcases hq with y | y
      · exact absurd a2 y
      · exact absurd a y
    · have hx : x = 3 ∨ x = 4 ∨ x = 5 ∨ x = 6 := by rcases a with z | z; exact Or.inr (Or.inr (Or.inl z)); exact Or.inr (Or.inr (Or.inr z))
      obtain ⟨r1, r2, _, _, _⟩ := rk_op hx
      obtain ⟨r3, r5⟩ := rk_hi a
      obtain ⟨i1, i2, i3, i4, i5, i6⟩ := pop_6 hB P 1 b (Or.inl (by decide))
      rw [e, popR_c r3, popN_c r3, popM_c r5, if_neg (show ¬ (mpc x = 11 ∨ mpc x = 35) from fun y => by rcases y with z | z; exact r1 z; exact r2 z), c40_n (opr_n hx).1, c2_n (opr_n hx).2, Nat.zero_add]
      exact ⟨i1, i2, i3, i4, i5, i6⟩
    · have hx : x = 3 ∨ x = 4 ∨ x = 5 ∨ x = 6 := by rcases a with z | z; exact Or.inl z; exact Or.inr (Or.inl z)
      obtain ⟨r3, r5⟩ := rk_lo a
      rw [e, popR_s r3, popN_s r3, popM_s r5]
      exact ⟨rfl, rfl, Or.inr (Or.inr (Or.inr ⟨a, by decide, b⟩)), (opr_n hx).2, rfl, rfl⟩
/-- ) settles as far as its ( -/
theorem pop_1 {B : List Int32} : ∀ (P : List Int32) (q : Nat), okP q P → (q ≠ 0 ∨ no2 P) → (40 : Int32) ∈ P → ∃ P2, popM 3 P = 40 :: P2 ∧ popR 1 (P.map mpc ++ B) = 29 :: (P2.map mpc ++ B) ∧ popN 1 (P.map mpc ++ B) = 0 ∧ okP 0 P2 ∧ cn40 P = cn40 P2 + 1 ∧ cn2 P = cn2 P2
  | [], _, _, _, h => by cases h
  | x :: P, q, h, hq, hm => by
    have e : (x :: P).map mpc ++ B = mpc x :: (P.map mpc ++ B) := rfl
    have op : ∀ q2 : Nat, q2 ≠ 0 → (x = 3 ∨ x = 4 ∨ x = 5 ∨ x = 6) → okP q2 P → ∃ P2, popM 3 (x :: P) = 40 :: P2 ∧ popR 1 ((x :: P).map mpc ++ B) = 29 :: (P2.map mpc ++ B) ∧ popN 1 ((x :: P).map mpc ++ B) = 0 ∧ okP 0 P2 ∧ cn40 (x :: P) = cn40 P2 + 1 ∧ cn2 (x :: P) = cn2 P2 := fun q2 h2 hx ho => by
      obtain ⟨r1, r2, r3, r4, r5⟩ := rk_op hx
      have hm2 : (40 : Int32) ∈ P := by
        rcases List.mem_cons.mp hm with y | y
        · exact absurd y.symm (opr_n hx).1
        · exact y
      obtain ⟨P2, i1, i2, i3, i4, i5, i6⟩ := pop_1 (B := B) P q2 ho (Or.inl h2) hm2
      rw [e, popR_c r4, popN_c r4, popM_c r5, if_neg (show ¬ (mpc x = 11 ∨ mpc x = 35) from fun y => by rcases y with z | z; exact r1 z; exact r2 z), c40_n (opr_n hx).1, c2_n (opr_n hx).2, Nat.zero_add]
      exact ⟨P2, i1, i2, i3, i4, i5, i6⟩
    rcases h with ⟨a, b⟩ | ⟨a, a2, b⟩ | ⟨a, a2, b⟩ | ⟨a, a2, b⟩
    · subst a
      refine ⟨P, popM_s (by decide), ?_, ?_, b, ?_, c2_n (by decide)⟩
      · rw [e, mp_40, popR_s (show g_X4_rank 29 < 1 by decide)]
      · rw [e, mp_40, popN_s (show g_X4_rank 29 < 1 by decide)]
      · show (if (40 : Int32) = 40 then 1 else 0) + cn40 P = cn40 P + 1
        rw [if_pos rfl]; omega
    · rcases hq with y | y
      · exact absurd a2 y
      · exact absurd a y
    · exact op 1 (by decide) (by rcases a with z | z; exact Or.inr (Or.inr (Or.inl z)); exact Or.inr (Or.inr (Or.inr z))) b
    · exact op 2 (by decide) (by rcases a with z | z; exact Or.inl z; exact Or.inr (Or.inl z)) b
/-- a ONE is whole: the - of one ONE at the top go -/
theorem map_W : ∀ P : List Int32, P.map mpc = List.replicate (cntW P) 35 ++ (popW P).map mpc
  | [] => rfl
  | x :: P => by
    by_cases h : x = 2
    · have a : cntW (x :: P) = 1 + cntW P := if_pos h
      have b : popW (x :: P) = popW P := if_pos h
      rw [a, b, Nat.add_comm 1, List.replicate_succ]
      show mpc x :: P.map mpc = 35 :: (List.replicate (cntW P) 35 ++ (popW P).map mpc)
      rw [h, mp_2, map_W P]
    · have a : cntW (x :: P) = 0 := if_neg h
      have b : popW (x :: P) = x :: P := if_neg h
      rw [a, b]
      rfl
theorem ok_W : ∀ P : List Int32, okP 0 P → okP 0 (popW P) ∧ no2 (popW P) ∧ cn40 (popW P) = cn40 P ∧ cn2 P = cntW P + cn2 (popW P)
  | [], _ => ⟨trivial, trivial, rfl, rfl⟩
  | x :: P, h => by
    by_cases q : x = 2
    · have a : cntW (x :: P) = 1 + cntW P := if_pos q
      have b : popW (x :: P) = popW P := if_pos q
      have hP : okP 0 P := by
        rcases h with ⟨y, z⟩ | ⟨y, y2, z⟩ | ⟨y, y2, z⟩ | ⟨y, y2, z⟩
        · exact z
        · exact z
        · rw [q] at y; rcases y with y | y <;> exact absurd y (by decide)
        · rw [q] at y; rcases y with y | y <;> exact absurd y (by decide)
      obtain ⟨i1, i2, i3, i4⟩ := ok_W P hP
      rw [a, b]
      refine ⟨i1, i2, by rw [i3, c40_n (show x ≠ 40 by rw [q]; decide)], ?_⟩
      show (if x = 2 then 1 else 0) + cn2 P = _
      rw [if_pos q]; omega
    · have a : cntW (x :: P) = 0 := if_neg q
      have b : popW (x :: P) = x :: P := if_neg q
      rw [a, b]
      exact ⟨h, q, rfl, (Nat.zero_add _).symm⟩
/-- what has waited for a ONE goes at each settle -/
theorem pop_rep {a : Int32} (ha : ¬ g_X4_rank 35 < a) {L : List Int32} : ∀ k : Nat, popR a (List.replicate k 35 ++ L) = popR a L ∧ popN a (List.replicate k 35 ++ L) = k + popN a L
  | 0 => ⟨rfl, (Nat.zero_add _).symm⟩
  | k + 1 => by
    obtain ⟨i1, i2⟩ := pop_rep ha (L := L) k
    rw [List.replicate_succ]
    show popR a (35 :: (List.replicate k 35 ++ L)) = _ ∧ popN a (35 :: (List.replicate k 35 ++ L)) = _
    rw [popR_c ha, popN_c ha, if_pos (show (35 : Int32) = 11 ∨ (35 : Int32) = 35 from Or.inr rfl), i1, i2]
    exact ⟨rfl, by omega⟩
/-- all of Q go -/
def allR (a : Int32) (Q : List Int32) : Prop := ∀ x, x ∈ Q → ¬ g_X4_rank x < a
def cntO : List Int32 → Nat
  | [] => 0
  | x :: L => (if x = 11 ∨ x = 35 then 1 else 0) + cntO L
theorem pop_all {a : Int32} {L : List Int32} : ∀ Q : List Int32, allR a Q → popR a (Q ++ L) = popR a L ∧ popN a (Q ++ L) = cntO Q + popN a L
  | [], _ => ⟨rfl, (Nat.zero_add _).symm⟩
  | x :: Q, h => by
    obtain ⟨i1, i2⟩ := pop_all (L := L) Q (fun y hy => h y (List.mem_cons_of_mem _ hy))
    have hx := h x (List.mem_cons_self ..)
    show popR a (x :: (Q ++ L)) = _ ∧ popN a (x :: (Q ++ L)) = ((if x = 11 ∨ x = 35 then 1 else 0) + cntO Q) + popN a L
    rw [popR_c hx, popN_c hx, i1, i2]
    exact ⟨rfl, by omega⟩
end PR6
/-! ===== pure: a SUM is read by both sides alike ===== -/
section PR7
variable {J : Nat → Int64} {rj : Nat → Nat → Int64} {rq : Nat → Nat → Option Nat} {mj : Nat → Nat → Int64} {mq : Nat → Nat → Option Nat}
/-- the class's reader between two TOKENS of an EITHER: L waits, o are open, b of them ( -/
def CST (n p : Nat) (T : Nat → Int32) (L : List Int32) (o b : Nat) (cm : Int32) (I : Nat → Int32) (r : Nat → Nat → Int32) : Prop := ((I 193).toInt = (n : Int) ∧ r 192 = T ∧ (I 197).toInt = (p : Int) ∧ p ≤ n ∧ I 129 = 0 ∧ I 139 = 0) ∧ ((I 134).toInt = (L.length : Int) ∧ stl (r 133) L.length = L) ∧ (I 135).toInt = (o : Int) ∧ (I 136).toInt = (b : Int) ∧ I 138 = cm
/-- the reference's parser at the TOKEN c: P is piled, o are open -/
def RST (n : Nat) (T : Nat → Int32) (c v : Int32) (s e : Nat) (P : List Int32) (o : Nat) (I : Nat → Int32) (J : Nat → Int64) (r : Nat → Nat → Int32) : Prop := ((I 388).toInt = (n : Int) ∧ r 387 = T) ∧ ((I 391).toInt = (e : Int) ∧ (I 392).toInt = (s : Int) ∧ TKF I J c v) ∧ ((I 401).toInt = (P.length : Int) ∧ stl (r 400) P.length = P) ∧ (I 402).toInt = (o : Int)
def FIN (J : Nat → Int64) (rj : Nat → Nat → Int64) (rq : Nat → Nat → Option Nat) (f : Int32) (s : Nat) (X : vM) : Prop := ∃ (If : Nat → Int32) (rf : Nat → Nat → Int32), X = (If, J, rf, rj, rq) ∧ If 129 = f ∧ (If 130).toInt = (s : Int)
theorem CST_fr {n p : Nat} {T : Nat → Int32} {L : List Int32} {o b : Nat} {cm : Int32} {I I' : Nat → Int32} {r r' : Nat → Nat → Int32} (h : CST n p T L o b cm I r) (hI : ∀ f, f ≠ 132 → I' f = I f) (hr : ∀ t, t ≠ 259 → r' t = r t) : CST n p T L o b cm I' r' := by
  obtain ⟨⟨a1, a2, a3, a4, a5, a6⟩, ⟨b1, b2⟩, c1, d1, e1⟩ := h
  exact ⟨⟨by rw [hI 193 (by decide)]; exact a1, by rw [hr 192 (by decide)]; exact a2, by rw [hI 197 (by decide)]; exact a3, a4, by rw [hI 129 (by decide)]; exact a5, by rw [hI 139 (by decide)]; exact a6⟩, ⟨by rw [hI 134 (by decide)]; exact b1, by rw [hr 133 (by decide)]; exact b2⟩, by rw [hI 135 (by decide)]; exact c1, by rw [hI 136 (by decide)]; exact d1, by rw [hI 138 (by decide)]; exact e1⟩
theorem CL_f {N : Nat} {d i : Int32} {I : Nat → Int32} {r : Nat → Nat → Int32} (h : I 129 ≠ 0) : g_X4_readEither_L34 J rj rq N d i I r = (I, J, r, rj, rq) := by
  cases N with
  | zero => rfl
  | succ N =>
    rw [g_X4_readEither_L34_e]
    try simp only [↓ap1_n]
    by_cases c : (300 : Int32) < i
    · rw [if_pos c]
    · rw [if_neg c, if_neg h]
theorem FIN_f {N : Nat} {d i f : Int32} {I2 I' : Nat → Int32} {r' : Nat → Nat → Int32} {s : Nat} (hF : FLT f I2 I') (hs : (I2 195).toInt = (s : Int)) (hf : f ≠ 0) : FIN J rj rq f s (g_X4_readEither_L34 J rj rq N d i I' r') := by
  rw [CL_f (by rw [hF.1]; exact hf)]
  exact ⟨I', r', rfl, hF.1, by rw [hF.2]; exact hs⟩
/-- a turn of the class -/
theorem CL_s {n p : Nat} {T : Nat → Int32} (h3 : n ≤ 300) {L : List Int32} {o b : Nat} {cm : Int32} {I : Nat → Int32} {r : Nat → Nat → Int32} (h : CST n p T L o b cm I r) {c v : Int32} {s e : Nat} (ht : TKC T n p c s e v) {i : Int32} (hi : i.toInt ≤ 300) (N : Nat) : ∃ I2 : Nat → Int32, (I2 194 = c ∧ (I2 195).toInt = (s : Int) ∧ (c = 18 → I2 196 = v)) ∧ CST n e T L o b cm I2 r ∧ I2 137 = I 137 ∧ (∀ d : Int32, d ≠ 0 → g_X4_readEither_L34 J rj rq (N + 1) d i I r = bnI (g_X4_readOne I2 J r rj rq) fun (x : Int32) (I3 : Nat → Int32) (_ : Nat → Int64) (r3 : Nat → Nat → Int32) (_ : Nat → Nat → Int64) (_ : Nat → Nat → Option Nat) => g_X4_readEither_L34 J rj rq N x (i + Int32.ofInt 1) I3 r3) ∧ g_X4_readEither_L34 J rj rq (N + 1) 0 i I r = bnI (g_X4_readBehindOne I2 J r rj rq) fun (x : Int32) (I3 : Nat → Int32) (_ : Nat → Int64) (r3 : Nat → Nat → Int32) (_ : Nat → Nat → Int64) (_ : Nat → Nat → Option Nat) => g_X4_readEither_L34 J rj rq N x (i + Int32.ofInt 1) I3 r3 := by
  obtain ⟨⟨a1, a2, a3, a4, a5, a6⟩, ⟨b1, b2⟩, c1, d1, e1⟩ := h
  have hle := TKC_le ht
  obtain ⟨I2, i1, i2, i3, i4, i5, i6⟩ := adv_v (J := J) (ri := r) (rj := rj) (rq := rq) h3 a1 a3 a4 (by rw [a2]; exact ht)
  have ni : ¬ (300 : Int32) < i := fun q => by
    have := Int32.lt_iff_toInt_lt.mp q
    have k : (300 : Int32).toInt = 300 := by decide
    omega
  have fr : ∀ f, f ≠ 194 → f ≠ 195 → f ≠ 196 → f ≠ 197 → I2 f = I f := i6
  refine ⟨I2, ⟨i2, i3, i5⟩, ⟨⟨by rw [fr 193 (by decide) (by decide) (by decide) (by decide)]; exact a1, a2, i4, hle.2.2.1, by rw [fr 129 (by decide) (by decide) (by decide) (by decide)]; exact a5, by rw [fr 139 (by decide) (by decide) (by decide) (by decide)]; exact a6⟩, ⟨by rw [fr 134 (by decide) (by decide) (by decide) (by decide)]; exact b1, b2⟩, by rw [fr 135 (by decide) (by decide) (by decide) (by decide)]; exact c1, by rw [fr 136 (by decide) (by decide) (by decide) (by decide)]; exact d1, by rw [fr 138 (by decide) (by decide) (by decide) (by decide)]; exact e1⟩, fr 137 (by decide) (by decide) (by decide) (by decide), fun d hd => ?_, ?_⟩
  · rw [g_X4_readEither_L34_e]
    try simp only [↓ap1_n]
    rw [if_neg ni, if_pos a5, if_pos a6, bv_n i1, if_neg hd]
  · rw [g_X4_readEither_L34_e]
    try simp only [↓ap1_n]
    rw [if_neg ni, if_pos a5, if_pos a6, bv_n i1]
    exact if_pos trivial
/-- the reference takes the next TOKEN -/
theorem RST_n {n : Nat} {T : Nat → Int32} (h3 : n ≤ 300) (hb : ∀ j, j < n → 0 ≤ (T j).toInt) {c v : Int32} {s e : Nat} {P : List Int32} {o : Nat} {I : Nat → Int32} {J1 : Nat → Int64} {r : Nat → Nat → Int32} (h : RST n T c v s e P o I J1 r) (hen : e ≤ n) {c' v' : Int32} {s' e' : Nat} (ht : TKC T n e c' s' e' v') : ∃ (I' : Nat → Int32) (J' : Nat → Int64), g_X12_nextToken_x I J1 r mj mq = (I', J', r, mj, mq) ∧ RST n T c' v' s' e' P o I' J' r ∧ ∀ f, f ≠ 391 → f ≠ 392 → f ≠ 393 → f ≠ 394 → I' f = I f := by
  obtain ⟨⟨a1, a2⟩, ⟨b1, b2, b3⟩, ⟨c1, c2⟩, d1⟩ := h
  obtain ⟨I', J', i1, i2, i3, i4, i5, i6⟩ := ntk_v (J := J1) (ri := r) (rj := mj) (rq := mq) h3 a1 b1 hen (by rw [a2]; exact hb) (by rw [a2]; exact ht)
  exact ⟨I', J', i1, ⟨⟨by rw [i5 388 (by decide) (by decide) (by decide) (by decide)]; exact a1, a2⟩, ⟨i2, i3, i4⟩, ⟨by rw [i5 401 (by decide) (by decide) (by decide) (by decide)]; exact c1, c2⟩, by rw [i5 402 (by decide) (by decide) (by decide) (by decide)]; exact d1⟩, i5⟩
theorem TKF_fr {I I' : Nat → Int32} {J1 : Nat → Int64} {c v : Int32} (h : TKF I J1 c v) (h1 : I' 393 = I 393) (h2 : I' 394 = I 394) : TKF I' J1 c v := by
  unfold TKF at h ⊢
  rw [h1, h2]
  exact h
theorem tm_nx {n : Nat} {T : Nat → Int32} (h3 : n ≤ 300) {c v c' v' : Int32} {s e s' e' : Nat} {P P' : List Int32} {o o' : Nat} {I I' : Nat → Int32} {J1 J' : Nat → Int64} {r r' : Nat → Nat → Int32} (h : RST n T c v s e P o I J1 r) (hc : c ≠ 33) (h' : RST n T c' v' s' e' P' o' I' J' r') (ht : TKC T n e c' s' e' v') : tmM (I' 391).toInt (I' 393).toInt < tmM (I 391).toInt (I 393).toInt ∧ 0 ≤ tmM (I' 391).toInt (I' 393).toInt := by
  obtain ⟨_, ⟨b1, b2, b3⟩, _, _⟩ := h
  obtain ⟨_, ⟨d1, d2, d3⟩, _, _⟩ := h'
  have hle := TKC_le ht
  have k0 : (0 : Int32).toInt = 0 := by decide
  have z : (I 393).toInt ≠ 0 := fun q => hc (b3.2.2.1.mp (Int32.toInt_inj.mp (q.trans k0.symm)))
  refine ⟨tm_lt z (by omega) ?_, tm_b (by omega)⟩
  by_cases q : s' < n
  · have := hle.2.2.2.2 q
    right; omega
  · left
    have c33 : c' = 33 := by
      rcases ht.2 with ⟨_, _, y⟩ | ⟨y, _⟩ | ⟨y, _⟩ | ⟨y, _⟩
      · exact y
      · exact absurd y q
      · exact absurd y q
      · exact absurd y q
    rw [d3.2.2.1.mpr c33]; exact k0
/-- how the reading of a SUM ends -/
def SRES (J : Nat → Int64) (rj : Nat → Nat → Int64) (rq : Nat → Nat → Option Nat) (mj : Nat → Nat → Int64) (mq : Nat → Nat → Option Nat) (n : Nat) (T : Nat → Int32) (B : List Int32) (ob : Nat) (cm : Int32) (X : vM) (Y : Int32 × vM) (tm0 : Int) : Prop := ∃ (f : Int32) (I1 : Nat → Int32) (J1 : Nat → Int64) (r1 : Nat → Nat → Int32), Y = (f, I1, J1, r1, mj, mq) ∧ ((f ≠ 0 ∧ ∃ s : Nat, (I1 392).toInt = (s : Int) ∧ FIN J rj rq f s X) ∨ (f = 0 ∧ ∃ (p2 : Nat) (c2 v2 : Int32) (s2 e2 N2 : Nat) (i2 : Int32) (I2 : Nat → Int32) (r2 : Nat → Nat → Int32) (Q : List Int32), X = g_X4_readEither_L34 J rj rq N2 0 i2 I2 r2 ∧ CST n p2 T (Q ++ B) (ob + cntO Q) 0 cm I2 r2 ∧ TKC T n p2 c2 s2 e2 v2 ∧ RST n T c2 v2 s2 e2 [] ob I1 J1 r1 ∧ (allR 5 Q ∧ Q.length ≤ 10 ∧ ob + cntO Q ≤ 8) ∧ ¬ (25 ≤ c2.toInt ∧ c2.toInt ≤ 28) ∧ (0 ≤ i2.toInt ∧ i2.toInt ≤ (p2 : Int)) ∧ (301 - i2.toInt).toNat < N2 ∧ tmM (I1 391).toInt (I1 393).toInt < tm0))
theorem SRES_w {n : Nat} {T : Nat → Int32} {B : List Int32} {ob : Nat} {cm : Int32} {X : vM} {Y : Int32 × vM} {t0 t1 : Int} (h : SRES J rj rq mj mq n T B ob cm X Y t0) (ht : t0 ≤ t1) : SRES J rj rq mj mq n T B ob cm X Y t1 := by
  obtain ⟨f, I1, J1, r1, e, h⟩ := h
  refine ⟨f, I1, J1, r1, e, ?_⟩
  rcases h with y | ⟨y, p2, c2, v2, s2, e2, N2, i2, I2, r2, Q, a1, a2, a3, a4, a5, a6, a7, a8, a9⟩
  · exact Or.inl y
  · exact Or.inr ⟨y, p2, c2, v2, s2, e2, N2, i2, I2, r2, Q, a1, a2, a3, a4, a5, a6, a7, a8, by omega⟩
theorem cn_mem : ∀ P : List Int32, (40 : Int32) ∈ P ↔ 0 < cn40 P
  | [] => ⟨fun h => (by cases h), fun h => absurd h (Nat.lt_irrefl _)⟩
  | x :: P => by
    rw [List.mem_cons, cn_mem P]
    show _ ↔ 0 < (if x = 40 then 1 else 0) + cn40 P
    by_cases q : x = 40
    · rw [if_pos q]; exact ⟨fun _ => by omega, fun _ => Or.inl q.symm⟩
    · rw [if_neg q]
      constructor
      · rintro (h | h)
        · exact absurd h.symm q
        · omega
      · intro h; right; omega
theorem pop_none : ∀ (P : List Int32) (q : Nat), okP q P → (q ≠ 0 ∨ no2 P) → cn40 P = 0 → popM 3 P = [] ∧ cn2 P = 0 ∧ allR 5 (P.map mpc) ∧ cntO (P.map mpc) = 0
  | [], _, _, _, _ => ⟨rfl, rfl, fun _ h => (by cases h), rfl⟩
  | x :: P, q, h, hq, hz => by
    have op : ∀ q2 : Nat, q2 ≠ 0 → (x = 3 ∨ x = 4 ∨ x = 5 ∨ x = 6) → okP q2 P → popM 3 (x :: P) = [] ∧ cn2 (x :: P) = 0 ∧ allR 5 ((x :: P).map mpc) ∧ cntO ((x :: P).map mpc) = 0 := fun q2 h2 hx ho => by
      obtain ⟨r1, r2, r3, r4, r5⟩ := rk_op hx
      rw [c40_n (opr_n hx).1] at hz
      obtain ⟨i1, i2, i3, i4⟩ := pop_none P q2 ho (Or.inl h2) hz
      rw [popM_c r5, c2_n (opr_n hx).2]
      refine ⟨i1, i2, fun y hy => ?_, ?_⟩
      · rcases List.mem_cons.mp hy with z | z
        · rw [z]; exact r3
        · exact i3 y z
      · show (if mpc x = 11 ∨ mpc x = 35 then 1 else 0) + cntO (P.map mpc) = 0
        rw [if_neg (show ¬ (mpc x = 11 ∨ mpc x = 35) from fun y => by rcases y with z | z; exact r1 z; exact r2 z), i4]
    rcases h with ⟨a, b⟩ | ⟨a, a2, b⟩ | ⟨a, a2, b⟩ | ⟨a, a2, b⟩
    · have : cn40 (x :: P) = 1 + cn40 P := by show (if x = 40 then 1 else 0) + cn40 P = _; rw [if_pos a]
      omega
    · rcases hq with y | y
      · exact absurd a2 y
      · exact absurd a y
    · exact op 1 (by decide) (by rcases a with z | z; exact Or.inr (Or.inr (Or.inl z)); exact Or.inr (Or.inr (Or.inr z))) b
    · exact op 2 (by decide) (by rcases a with z | z; exact Or.inl z; exact Or.inr (Or.inl z)) b
theorem rep_all : ∀ k : Nat, allR 5 (List.replicate k (35 : Int32)) ∧ cntO (List.replicate k (35 : Int32)) = k
  | 0 => ⟨fun _ h => (by cases h), rfl⟩
  | k + 1 => by
    obtain ⟨a, b⟩ := rep_all k
    rw [List.replicate_succ]
    refine ⟨fun y hy => ?_, ?_⟩
    · rcases List.mem_cons.mp hy with z | z
      · rw [z]; decide
      · exact a y z
    · show (if (35 : Int32) = 11 ∨ (35 : Int32) = 35 then 1 else 0) + cntO (List.replicate k 35) = k + 1
      rw [if_pos (Or.inr rfl), b]; omega
theorem all_app {a : Int32} : ∀ {Q R : List Int32}, allR a Q → allR a R → allR a (Q ++ R) ∧ cntO (Q ++ R) = cntO Q + cntO R
  | [], R, _, h => ⟨h, (Nat.zero_add _).symm⟩
  | x :: Q, R, h1, h2 => by
    obtain ⟨i1, i2⟩ := all_app (Q := Q) (R := R) (fun y hy => h1 y (List.mem_cons_of_mem _ hy)) h2
    refine ⟨fun y hy => ?_, ?_⟩
    · rcases List.mem_cons.mp hy with z | z
      · rw [z]; exact h1 x (List.mem_cons_self ..)
      · exact i1 y z
    · show (if x = 11 ∨ x = 35 then 1 else 0) + cntO (Q ++ R) = (if x = 11 ∨ x = 35 then 1 else 0) + cntO Q + cntO R
      rw [i2]; omega
/-- the reference behind a number or a NAME -/
theorem one_m {n : Nat} {T : Nat → Int32} (h3 : n ≤ 300) (hb : ∀ j, j < n → 0 ≤ (T j).toInt) {c v : Int32} {s e : Nat} {P : List Int32} {o : Nat} {I : Nat → Int32} {J1 : Nat → Int64} {r : Nat → Nat → Int32} (h : RST n T c v s e P o I J1 r) (hen : e ≤ n) (hP : P.length ≤ 200) (ho : cntW P ≤ o) (ho2 : o ≤ 100) {c' v' : Int32} {s' e' : Nat} (ht : TKC T n e c' s' e' v') (a b : Int32) : ∃ (I3 : Nat → Int32) (J3 : Nat → Int64) (r3 : Nat → Nat → Int32), (bnV (g_X12_emit a b I J1 r mj mq) fun (I4 : Nat → Int32) (_ : Nat → Int64) (r4 : Nat → Nat → Int32) (_ : Nat → Nat → Int64) (_ : Nat → Nat → Option Nat) => bnV (g_X12_nextToken_x I4 J1 r4 mj mq) fun (I5 : Nat → Int32) (J5 : Nat → Int64) (_ : Nat → Nat → Int32) (_ : Nat → Nat → Int64) (_ : Nat → Nat → Option Nat) => bnV (g_X12_whole I5 J5 r4 mj mq) fun (I6 : Nat → Int32) (_ : Nat → Int64) (r6 : Nat → Nat → Int32) (_ : Nat → Nat → Int64) (_ : Nat → Nat → Option Nat) => (((0 : Int32), I6, J5, r6, mj, mq) : Int32 × vM)) = (0, I3, J3, r3, mj, mq) ∧ RST n T c' v' s' e' (popW P) (o - cntW P) I3 J3 r3 ∧ I3 403 = 1 := by
  obtain ⟨I4, r4, e1, e2, e3⟩ := emit_m (J := J1) (ri := r) (rj := mj) (rq := mq) (a := a) (b := b) (I := I)
  rw [bv_n e1]
  have h4 : RST n T c v s e P o I4 J1 r4 := by
    obtain ⟨⟨a1, a2⟩, ⟨b1, b2, b3⟩, ⟨c1, c2⟩, d1⟩ := h
    exact ⟨⟨by rw [e2 388 (by decide)]; exact a1, by rw [e3 387 (by decide)]; exact a2⟩, ⟨by rw [e2 391 (by decide)]; exact b1, by rw [e2 392 (by decide)]; exact b2, TKF_fr b3 (e2 393 (by decide)) (e2 394 (by decide))⟩, ⟨by rw [e2 401 (by decide)]; exact c1, by rw [e3 400 (by decide)]; exact c2⟩, by rw [e2 402 (by decide)]; exact d1⟩
  obtain ⟨I5, J5, f1, f2, f3⟩ := RST_n (mj := mj) (mq := mq) h3 hb h4 hen ht
  rw [bv_n f1]
  obtain ⟨⟨a1, a2⟩, ⟨b1, b2, b3⟩, ⟨c1, c2⟩, d1⟩ := f2
  obtain ⟨I6, r6, w', g1, g2, g3, g4, g5, g6, g7⟩ := whole_v (J := J5) (ri := r4) (rj := mj) (rq := mq) c1 (by omega) (by rw [c2]; omega) (by omega)
  rw [bv_n g1]
  rw [c2] at g3 g4
  have lw : w' = (popW P).length := by rw [← g3, stl_len]
  subst lw
  exact ⟨I6, J5, r6, rfl, ⟨⟨by rw [g6 388 (by decide) (by decide) (by decide) (by decide)]; exact a1, by rw [g7 387 (by decide)]; exact a2⟩, ⟨by rw [g6 391 (by decide) (by decide) (by decide) (by decide)]; exact b1, by rw [g6 392 (by decide) (by decide) (by decide) (by decide)]; exact b2, TKF_fr b3 (g6 393 (by decide) (by decide) (by decide) (by decide)) (g6 394 (by decide) (by decide) (by decide) (by decide))⟩, ⟨g2, g3⟩, by omega⟩, g5⟩
/-- the reference behind a sign that settles, and is piled -/
theorem op_m {n : Nat} {T : Nat → Int32} {c v : Int32} {s e : Nat} {P : List Int32} {o : Nat} {I : Nat → Int32} {J1 : Nat → Int64} {r : Nat → Nat → Int32} (h : RST n T c v s e P o I J1 r) (hP : P.length ≤ 200) (a b : Int32) : ∃ (I3 : Nat → Int32) (r3 : Nat → Nat → Int32), (bnV (g_X12_settle a I J1 r mj mq) fun (I4 : Nat → Int32) (_ : Nat → Int64) (r4 : Nat → Nat → Int32) (_ : Nat → Nat → Int64) (_ : Nat → Nat → Option Nat) => bnV (g_X12_push b I4 J1 r4 mj mq) fun (I5 : Nat → Int32) (_ : Nat → Int64) (r5 : Nat → Nat → Int32) (_ : Nat → Nat → Int64) (_ : Nat → Nat → Option Nat) => ((va_up I5 403 0, J1, r5, mj, mq) : vM)) = (I3, J1, r3, mj, mq) ∧ RST n T c v s e (b :: popM a P) o I3 J1 r3 ∧ I3 403 = 0 := by
  obtain ⟨⟨a1, a2⟩, ⟨b1, b2, b3⟩, ⟨c1, c2⟩, d1⟩ := h
  obtain ⟨I4, r4, w', g1, g2, g3, g4, g5⟩ := setM_v (J := J1) (ri := r) (rj := mj) (rq := mq) (a := a) c1 (by omega)
  rw [bv_n g1]
  rw [c2] at g3
  have lw : w' = (popM a P).length := by rw [← g3, stl_len]
  subst lw
  rw [bv_n (push_m g2)]
  have hl : (b :: popM a P).length = (popM a P).length + 1 := rfl
  have pl : (popM a P).length ≤ P.length := by
    have : ∀ L : List Int32, (popM a L).length ≤ L.length := fun L => by
      induction L with
      | nil => exact Nat.le_refl _
      | cons x L ih =>
        by_cases q : g_X12_isIn_x x a 6 = 0
        · rw [popM_s q]; exact Nat.le_refl _
        · rw [popM_c q]; exact Nat.le_succ_of_le ih
    exact this P
  have z : ∀ f, f ≠ 398 → f ≠ 401 → f ≠ 403 → va_up (va_up I4 401 (I4 401 + 1)) 403 0 f = I f := fun f f1 f2 f3 => by rw [va_up_ne _ _ f3, va_up_ne _ _ f2]; exact g4 f f1 f2
  refine ⟨_, _, rfl, ⟨⟨by rw [z 388 (by decide) (by decide) (by decide)]; exact a1, by rw [va_up_ne _ _ (show (387 : Nat) ≠ 400 by decide), g5 387 (by decide)]; exact a2⟩, ⟨by rw [z 391 (by decide) (by decide) (by decide)]; exact b1, by rw [z 392 (by decide) (by decide) (by decide)]; exact b2, TKF_fr b3 (z 393 (by decide) (by decide) (by decide)) (z 394 (by decide) (by decide) (by decide))⟩, ⟨?_, ?_⟩, by rw [z 402 (by decide) (by decide) (by decide)]; exact d1⟩, va_up_self _ _ _⟩
  · rw [va_up_ne _ _ (show (401 : Nat) ≠ 403 by decide), va_up_self, hl]
    exact upN g2 (by omega)
  · rw [va_up_self, hl, stl_push, g3]
end PR7
/-! ===== pure: a SUM, both sides step by step ===== -/
section PR8
variable {J : Nat → Int64} {rj : Nat → Nat → Int64} {rq : Nat → Nat → Option Nat} {mj : Nat → Nat → Int64} {mq : Nat → Nat → Option Nat}
theorem to_k {c k : Int32} {z : Int} (h : c.toInt = z) (hk : k.toInt = z) : c = k := Int32.toInt_inj.mp (h.trans hk.symm)
theorem sum_sim {n : Nat} {T : Nat → Int32} (h3 : n ≤ 300) (hb : ∀ j, j < n → 0 ≤ (T j).toInt) {B : List Int32} (hB : stB B) (hBl : B.length ≤ 11) {cm : Int32} {ob : Nat} : ∀ k : Nat,
    (∀ (N : Nat) (i : Int32) (I : Nat → Int32) (r : Nat → Nat → Int32) (m : Nat) (I' : Nat → Int32) (J' : Nat → Int64) (r' : Nat → Nat → Int32) (P : List Int32) (o p : Nat) (c v : Int32) (s e : Nat), n - p < k → CST n p T (P.map mpc ++ B) o (cn40 P) cm I r → TKC T n p c s e v → RST n T c v s e P o I' J' r' → I' 403 = 0 → okP 0 P → o = ob + cn40 P + cn2 P → o ≤ 8 → (I 137 = 0 ∨ c ≠ 11) → 0 ≤ i.toInt → i.toInt ≤ (p : Int) → (301 - i.toInt).toNat < N → (tmM (I' 391).toInt (I' 393).toInt).toNat < m → ∀ d : Int32, d ≠ 0 → SRES J rj rq mj mq n T B ob cm (g_X4_readEither_L34 J rj rq N d i I r) (g_X12_sum_L10 mj mq m I' J' r') (tmM (I' 391).toInt (I' 393).toInt)) ∧
    (∀ (N : Nat) (i : Int32) (I : Nat → Int32) (r : Nat → Nat → Int32) (m : Nat) (I' : Nat → Int32) (J' : Nat → Int64) (r' : Nat → Nat → Int32) (P : List Int32) (q o p : Nat) (c v : Int32) (s e : Nat), n - p < k → CST n p T (List.replicate q 35 ++ (P.map mpc ++ B)) (o + q) (cn40 P) cm I r → TKC T n p c s e v → RST n T c v s e P o I' J' r' → I' 403 = 1 → okP 0 P → no2 P → o = ob + cn40 P + cn2 P → o + q ≤ 8 → 0 ≤ i.toInt → i.toInt ≤ (p : Int) → (301 - i.toInt).toNat < N → (tmM (I' 391).toInt (I' 393).toInt).toNat < m → SRES J rj rq mj mq n T B ob cm (g_X4_readEither_L34 J rj rq N 0 i I r) (g_X12_sum_L10 mj mq m I' J' r') (tmM (I' 391).toInt (I' 393).toInt + 1)) := by
  intro k
  induction k with
  | zero => exact ⟨fun _ _ _ _ _ _ _ _ _ _ _ _ _ _ _ h => absurd h (Nat.not_lt_zero _), fun _ _ _ _ _ _ _ _ _ _ _ _ _ _ _ _ h => absurd h (Nat.not_lt_zero _)⟩
  | succ k ih =>
    obtain ⟨ihD, ihB⟩ := ih
    constructor
    · -- a ONE is due
      intro N i I r m I' J' r' P o p c v s e hk hC ht hR hw hO ho ho8 haa hi0 hip hN hm d hd
      have hle := TKC_le ht
      have hpl := okP_len P 0 (by decide) hO
      cases N with
      | zero => exact absurd hN (Nat.not_lt_zero _)
      | succ N =>
      cases m with
      | zero => exact absurd hm (Nat.not_lt_zero _)
      | succ m =>
      obtain ⟨I2, ⟨g1, g2, g3⟩, hC2, hA, hD, _⟩ := CL_s (J := J) (rj := rj) (rq := rq) h3 hC ht (i := i) (by omega) N
      rw [hD d hd, g_X12_sum_L10_e]
      try simp only [↓ap1_n]
      rw [if_pos hw]
      have hR' := hR
      obtain ⟨⟨a1, a2⟩, ⟨b1, b2, b3⟩, ⟨c1, c2⟩, d1⟩ := hR'
      have b3' := b3
      obtain ⟨t0, t18, t33, s19, s20, s21, s22, s23, s24, s25, s26, s27, s28, s29, s30, s31, s32, t2, tv, tw⟩ := b3'
      have hC2' := hC2
      obtain ⟨⟨z1, z2, z3, z4, z5, z6⟩, ⟨y1, y2⟩, x1, x2, x3⟩ := hC2'
      have i1 : s < n → (i + Int32.ofInt 1).toInt = i.toInt + 1 := fun _ => t1_inc (by omega) (by omega)
      have cn33 : s < n → c ≠ 33 := fun q y => by
        rcases ht.2 with ⟨w1, _⟩ | ⟨_, _, _, w4, _⟩ | ⟨_, _, _, w4⟩ | ⟨_, _, _, _, w5⟩
        · omega
        · rw [y] at w4; exact absurd w4 (by decide)
        · rw [y] at w4
          rcases wtk_le (T := T) (s := s) (e := e) WL 0 (by decide) (by decide) with h | h
          · rw [← w4] at h; exact absurd h (by decide)
          · rw [← w4] at h; exact absurd h (by decide)
        · rw [y] at w5; exact absurd w5.symm sgT_33
      have no33 : c ≠ 33 → s < n := fun q => by
        rcases ht.2 with ⟨_, _, w3⟩ | ⟨w1, _⟩ | ⟨w1, _⟩ | ⟨w1, _⟩
        · exact absurd w3 q
        · exact w1
        · exact w1
        · exact w1
      obtain ⟨c', s', e', v', ht'⟩ := TKC_ex T hC2.1.2.2.2.1
      have lenL : (P.map mpc ++ B).length = P.length + B.length := by rw [List.length_append, List.length_map]
      -- a fault of both
      have flt : ∀ (f : Int32) (K : Nat → Int32) (rk : Nat → Nat → Int32) (x : Int32), f ≠ 0 → FLT f I2 K → SRES J rj rq mj mq n T B ob cm (g_X4_readEither_L34 J rj rq N x (i + Int32.ofInt 1) K rk) (f, I', J', r', mj, mq) (tmM (I' 391).toInt (I' 393).toInt) := fun f K rk x hf hF => ⟨f, I', J', r', rfl, Or.inl ⟨hf, s, b2, FIN_f hF g2 hf⟩⟩
      -- a number or a NAME
      have one : ∀ (a b : Int32) (I3 : Nat → Int32) (r3 : Nat → Nat → Int32), s < n → (∀ f, f ≠ 132 → I3 f = I2 f) → (∀ t, t ≠ 259 → r3 t = r t) → SRES J rj rq mj mq n T B ob cm (g_X4_readEither_L34 J rj rq N 0 (i + Int32.ofInt 1) I3 r3) (bnI (bnV (g_X12_emit a b I' J' r' mj mq) fun (I4 : Nat → Int32) (_ : Nat → Int64) (r4 : Nat → Nat → Int32) (_ : Nat → Nat → Int64) (_ : Nat → Nat → Option Nat) => bnV (g_X12_nextToken_x I4 J' r4 mj mq) fun (I5 : Nat → Int32) (J5 : Nat → Int64) (_ : Nat → Nat → Int32) (_ : Nat → Nat → Int64) (_ : Nat → Nat → Option Nat) => bnV (g_X12_whole I5 J5 r4 mj mq) fun (I6 : Nat → Int32) (_ : Nat → Int64) (r6 : Nat → Nat → Int32) (_ : Nat → Nat → Int64) (_ : Nat → Nat → Option Nat) => (((0 : Int32), I6, J5, r6, mj, mq) : Int32 × vM)) fun (x : Int32) (I7 : Nat → Int32) (J7 : Nat → Int64) (r7 : Nat → Nat → Int32) (_ : Nat → Nat → Int64) (_ : Nat → Nat → Option Nat) => if x = (0 : Int32) then g_X12_sum_L10 mj mq m I7 J7 r7 else (x, I7, J7, r7, mj, mq)) (tmM (I' 391).toInt (I' 393).toInt) := fun a b I3 r3 hs hI3 hr3 => by
        obtain ⟨w1, w2, w3, w4⟩ := ok_W P hO
        obtain ⟨I6, J6, r6, e1, e2, e3⟩ := one_m (mj := mj) (mq := mq) h3 hb hR hle.2.2.1 (by omega) (by omega) (by omega) ht' a b
        rw [bn_n e1, if_pos (show (0 : Int32) = 0 from rfl)]
        obtain ⟨n1, n2⟩ := tm_nx h3 hR (cn33 hs) e2 ht'
        have hC3 := CST_fr hC2 hI3 hr3
        rw [map_W P, List.append_assoc, ← w3] at hC3
        have oo : o - cntW P + cntW P = o := by omega
        refine SRES_w (ihB N (i + Int32.ofInt 1) I3 r3 m I6 J6 r6 (popW P) (cntW P) (o - cntW P) e c' v' s' e' ?_ (by rw [oo]; exact hC3) ht' e2 e3 w1 w2 (by omega) (by omega) (by rw [i1 hs]; omega) (by rw [i1 hs]; omega) (by rw [i1 hs]; omega) (by omega)) (by omega)
        have := hle.2.2.2.2 hs
        omega
      -- ( or - of one ONE
      have opn : ∀ (t b : Int32), (t = 29 ∧ b = 40 ∧ c = 29) ∨ (t = 35 ∧ b = 2 ∧ c = 26) → SRES J rj rq mj mq n T B ob cm (bnI (g_X4_readOne I2 J r rj rq) fun (x : Int32) (I3 : Nat → Int32) (_ : Nat → Int64) (r3 : Nat → Nat → Int32) (_ : Nat → Nat → Int64) (_ : Nat → Nat → Option Nat) => g_X4_readEither_L34 J rj rq N x (i + Int32.ofInt 1) I3 r3) (bnI (if I' 402 = 8 then (((3 : Int32), I', J', r', mj, mq) : Int32 × vM) else bnV (g_X12_push b (va_up I' 402 (I' 402 + 1)) J' r' mj mq) fun (I4 : Nat → Int32) (_ : Nat → Int64) (r4 : Nat → Nat → Int32) (_ : Nat → Nat → Int64) (_ : Nat → Nat → Option Nat) => bnV (g_X12_nextToken_x I4 J' r4 mj mq) fun (I5 : Nat → Int32) (J5 : Nat → Int64) (_ : Nat → Nat → Int32) (_ : Nat → Nat → Int64) (_ : Nat → Nat → Option Nat) => (((0 : Int32), I5, J5, r4, mj, mq) : Int32 × vM)) fun (x : Int32) (I7 : Nat → Int32) (J7 : Nat → Int64) (r7 : Nat → Nat → Int32) (_ : Nat → Nat → Int64) (_ : Nat → Nat → Option Nat) => if x = (0 : Int32) then g_X12_sum_L10 mj mq m I7 J7 r7 else (x, I7, J7, r7, mj, mq)) (tmM (I' 391).toInt (I' 393).toInt) := fun t b htb => by
        have hs : s < n := no33 (by rcases htb with ⟨_, _, y⟩ | ⟨_, _, y⟩ <;> rw [y] <;> decide)
        have tt : t = 29 ∨ t = 11 ∨ t = 35 := by rcases htb with ⟨y, _⟩ | ⟨y, _⟩; exact Or.inl y; exact Or.inr (Or.inr y)
        have op : (I2 194 = 26 ∧ t = 35) ∨ (I2 194 = 29 ∧ t = 29) ∨ (I2 194 = 11 ∧ I2 137 ≠ 0 ∧ t = 11) := by
          rw [g1]
          rcases htb with ⟨y, _, z⟩ | ⟨y, _, z⟩
          · exact Or.inr (Or.inl ⟨z, y⟩)
          · exact Or.inl ⟨z, y⟩
        have k8 : (8 : Int32).toInt = ((8 : Nat) : Int) := by decide
        by_cases q : o = 8
        · rw [if_pos ((eq_n d1 k8).mpr q), bn_n (show ((3 : Int32), I', J', r', mj, mq) = ((3 : Int32), I', J', r', mj, mq) from rfl), if_neg (show ¬ (3 : Int32) = 0 by decide)]
          obtain ⟨K, rk, e1, e2⟩ := open_f (J := J) (ri := r) (rj := rj) (rq := rq) (t := t) z5 (by omega)
          rw [bn_n (ro_op op e1)]
          exact flt 3 K rk 1 (by decide) e2
        · rw [if_neg (fun y => q ((eq_n d1 k8).mp y))]
          obtain ⟨K, e1, e2, e3, e4, e5, e6⟩ := open_v (J := J) (ri := r) (rj := rj) (rq := rq) tt x1 (by omega) y1 (by omega)
          rw [bn_n (ro_op op e1)]
          have w1 : (va_up I' 402 (I' 402 + 1) 401).toInt = (P.length : Int) := by rw [va_up_ne _ _ (show (401 : Nat) ≠ 402 by decide)]; exact c1
          rw [bv_n (push_m w1)]
          have zz : ∀ f, f ≠ 401 → f ≠ 402 → va_up (va_up I' 402 (I' 402 + 1)) 401 (va_up I' 402 (I' 402 + 1) 401 + 1) f = I' f := fun f f1 f2 => by rw [va_up_ne _ _ f1, va_up_ne _ _ f2]
          have hl : (b :: P).length = P.length + 1 := rfl
          have hR2 : RST n T c v s e (b :: P) (o + 1) (va_up (va_up I' 402 (I' 402 + 1)) 401 (va_up I' 402 (I' 402 + 1) 401 + 1)) J' (va_up r' 400 (upd (r' 400) P.length b)) := by
            refine ⟨⟨by rw [zz 388 (by decide) (by decide)]; exact a1, by rw [va_up_ne _ _ (show (387 : Nat) ≠ 400 by decide)]; exact a2⟩, ⟨by rw [zz 391 (by decide) (by decide)]; exact b1, by rw [zz 392 (by decide) (by decide)]; exact b2, TKF_fr b3 (zz 393 (by decide) (by decide)) (zz 394 (by decide) (by decide))⟩, ⟨?_, ?_⟩, ?_⟩
            · rw [va_up_self, hl]; exact upN w1 (by omega)
            · rw [va_up_self, hl, stl_push, c2]
            · rw [va_up_ne _ _ (show (402 : Nat) ≠ 401 by decide), va_up_self]; exact upN d1 (by omega)
          obtain ⟨I5, J5, f1, f2, f3⟩ := RST_n (mj := mj) (mq := mq) h3 hb hR2 hle.2.2.1 ht'
          rw [bv_n f1, bn_n rfl, if_pos (show (0 : Int32) = 0 from rfl)]
          obtain ⟨n1, n2⟩ := tm_nx h3 hR (cn33 hs) f2 ht'
          have mb : mpc b = t := by rcases htb with ⟨y, z, _⟩ | ⟨y, z, _⟩ <;> rw [y, z] <;> decide
          have hC3 : CST n e T ((b :: P).map mpc ++ B) (o + 1) (cn40 (b :: P)) cm K (va_up r 133 (upd (r 133) (P.map mpc ++ B).length t)) := by
            have el : (b :: P).map mpc ++ B = t :: (P.map mpc ++ B) := by
              show mpc b :: (P.map mpc ++ B) = _
              rw [mb]
            rw [el]
            refine ⟨⟨by rw [e6 193 (by decide) (by decide) (by decide) (by decide)]; exact z1, by rw [va_up_ne _ _ (show (192 : Nat) ≠ 133 by decide)]; exact z2, by rw [e6 197 (by decide) (by decide) (by decide) (by decide)]; exact z3, z4, by rw [e6 129 (by decide) (by decide) (by decide) (by decide)]; exact z5, by rw [e6 139 (by decide) (by decide) (by decide) (by decide)]; exact z6⟩, ⟨e3, ?_⟩, e2, ?_, by rw [e6 138 (by decide) (by decide) (by decide) (by decide)]; exact x3⟩
            · show stl _ ((P.map mpc ++ B).length + 1) = _
              rw [va_up_self, stl_push, y2]
            · rw [e4]
              rcases htb with ⟨y, z, _⟩ | ⟨y, z, _⟩
              · rw [if_pos y, z]
                show (I2 136 + 1).toInt = (((if (40 : Int32) = 40 then 1 else 0) + cn40 P : Nat) : Int)
                rw [if_pos rfl]
                have := upN x2 (by omega)
                omega
              · rw [if_neg (show ¬ t = 29 by rw [y]; decide), z, c40_n (show (2 : Int32) ≠ 40 by decide)]
                exact x2
          have ok2 : okP 0 (b :: P) := by
            rcases htb with ⟨_, z, _⟩ | ⟨_, z, _⟩
            · exact Or.inl ⟨z, hO⟩
            · exact Or.inr (Or.inl ⟨z, rfl, hO⟩)
          have cnt : o + 1 = ob + cn40 (b :: P) + cn2 (b :: P) := by
            rcases htb with ⟨_, z, _⟩ | ⟨_, z, _⟩
            · rw [z, c2_n (show (40 : Int32) ≠ 2 by decide)]
              show _ = ob + ((if (40 : Int32) = 40 then 1 else 0) + cn40 P) + cn2 P
              rw [if_pos rfl]; omega
            · rw [z, c40_n (show (2 : Int32) ≠ 40 by decide)]
              show _ = ob + cn40 P + ((if (2 : Int32) = 2 then 1 else 0) + cn2 P)
              rw [if_pos rfl]; omega
          have w403 : I5 403 = 0 := by rw [f3 403 (by decide) (by decide) (by decide) (by decide), zz 403 (by decide) (by decide)]; exact hw
          refine SRES_w (ihD N (i + Int32.ofInt 1) K _ m I5 J5 _ (b :: P) (o + 1) e c' v' s' e' ?_ hC3 ht' f2 w403 ok2 cnt (by omega) (Or.inl ?_) (by rw [i1 hs]; omega) (by rw [i1 hs]; omega) (by rw [i1 hs]; omega) (by omega) 1 (by decide)) (by omega)
          · have := hle.2.2.2.2 hs
            omega
          · rw [e5, if_neg (show ¬ t = 11 by rcases htb with ⟨y, _⟩ | ⟨y, _⟩ <;> rw [y] <;> decide)]
      -- which TOKEN it is
      rw [g_X12_beginOne_e]
      try simp only [↓ap1_n]
      by_cases q18 : c = 18
      · have hs := no33 (by rw [q18]; decide)
        have hv := tv q18
        have k9 : (9999 : Int32).toInt = 9999 := by decide
        rw [if_pos (t18.mpr q18)]
        by_cases w : I' 394 ≤ 9999
        · have w1 := Int32.le_iff_toInt_le.mp w
          have v9 : (I2 196).toInt ≤ 9999 := by
            rw [g3 q18]
            rcases hv with ⟨u1, u2, u3⟩ | ⟨u1, u2, u3⟩
            · rw [u3]; exact u2
            · omega
          rw [if_pos w]
          obtain ⟨I3, r3, e1, e2, e3⟩ := ro_num (J := J) (ri := r) (rj := rj) (rq := rq) (I := I2) (by rw [g1, q18]) v9
          rw [bn_n e1]
          exact one _ _ I3 r3 hs e2 e3
        · have w1 := Int32.lt_iff_toInt_lt.mp (Int32.not_le.mp w)
          have v9 : 9999 < (I2 196).toInt := by
            rw [g3 q18]
            rcases hv with ⟨u1, u2, u3⟩ | ⟨u1, u2, u3⟩ <;> omega
          rw [if_neg w, bn_n (show ((2 : Int32), I', J', r', mj, mq) = ((2 : Int32), I', J', r', mj, mq) from rfl), if_neg (show ¬ (2 : Int32) = 0 by decide)]
          obtain ⟨K, rk, e1, e2⟩ := ro_big (J := J) (ri := r) (rj := rj) (rq := rq) (I := I2) z5 (by rw [g1, q18]) v9
          rw [bn_n e1]
          exact flt 2 K rk 0 (by decide) e2
      · have n1 : ¬ I' 393 = 1 := fun y => q18 (t18.mp y)
        rw [if_neg n1, if_neg n1, bn_n (name_x b3)]
        by_cases qn : 12 ≤ c.toInt ∧ c.toInt ≤ 17
        · have hs := no33 (fun y => by rw [y] at qn; exact absurd qn.2 (by decide))
          have nn : ¬ nmC c < 0 := nmC_ge qn
          rw [if_neg nn, if_neg n1, if_neg n1]
          rw [bn_n (name_x b3)]
          obtain ⟨I3, r3, e1, e2, e3⟩ := ro_name (J := J) (ri := r) (rj := rj) (rq := rq) (I := I2) (by rw [g1]; exact qn)
          rw [bn_n e1]
          exact one _ _ I3 r3 hs e2 e3
        · rw [if_pos (nmC_lt qn)]
          by_cases q29 : c = 29
          · rw [if_pos (s29.mpr q29)]
            exact opn 29 40 (Or.inl ⟨rfl, rfl, q29⟩)
          · rw [if_neg (show ¬ I' 393 = 40 from fun y => q29 (s29.mp y))]
            by_cases q26 : c = 26
            · rw [if_pos (s26.mpr q26)]
              exact opn 35 2 (Or.inr ⟨rfl, rfl, q26⟩)
            · rw [if_neg (show ¬ I' 393 = 45 from fun y => q26 (s26.mp y)), bn_n (show ((1 : Int32), I', J', r', mj, mq) = ((1 : Int32), I', J', r', mj, mq) from rfl), if_neg (show ¬ (1 : Int32) = 0 by decide)]
              obtain ⟨K, e1, e2⟩ := ro_no (J := J) (ri := r) (rj := rj) (rq := rq) (I := I2) z5 (by rw [g1]; exact q18) (by rw [g1]; exact qn) (by rw [g1]; exact q26) (by rw [g1]; exact q29) (by rw [g1, hA]; rcases haa with y | y; exact Or.inr y; exact Or.inl y)
              rw [bn_n e1]
              exact flt 1 K r 1 (by decide) e2
    · -- behind a ONE
      intro N i I r m I' J' r' P q o p c v s e hk hC ht hR hw hO hno ho ho8 hi0 hip hN hm
      have hle := TKC_le ht
      have hpl := okP_len P 0 (by decide) hO
      have hN0 : (301 - i.toInt).toNat < N := hN
      cases N with
      | zero => exact absurd hN (Nat.not_lt_zero _)
      | succ N =>
      cases m with
      | zero => exact absurd hm (Nat.not_lt_zero _)
      | succ m =>
      obtain ⟨I2, ⟨g1, g2, g3⟩, hC2, hA, _, hD⟩ := CL_s (J := J) (rj := rj) (rq := rq) h3 hC ht (i := i) (by omega) N
      have hR' := hR
      obtain ⟨⟨a1, a2⟩, ⟨b1, b2, b3⟩, ⟨c1, c2⟩, d1⟩ := hR'
      have hC2' := hC2
      obtain ⟨⟨z1, z2, z3, z4, z5, z6⟩, ⟨y1, y2⟩, x1, x2, x3⟩ := hC2'
      have lenL : (List.replicate q (35 : Int32) ++ (P.map mpc ++ B)).length = q + (P.length + B.length) := by rw [List.length_append, List.length_append, List.length_map, List.length_replicate]
      have mem := cn_mem P
      have h35 : ∀ a : Int32, a.toInt ≤ 7 → ¬ g_X4_rank 35 < a := fun a ha y => by
        have y1 := Int32.lt_iff_toInt_lt.mp y
        have k : (g_X4_rank 35).toInt = 7 := by decide
        omega
      rw [g_X12_sum_L10_e]
      try simp only [↓ap1_n]
      rw [if_neg (show ¬ I' 403 = 0 by rw [hw]; decide)]
      by_cases hg : goC c P
      · -- it goes on
        have hg' : goC c (stl (r' 400) P.length) := by rw [c2]; exact hg
        rw [bn_n (goes_1 b3 c1 (by omega) hg'), if_neg (show ¬ (1 : Int32) = 0 by decide), hD]
        have hc33 : c ≠ 33 := by
          rcases hg with y | y | y | y | ⟨y, _⟩ <;> rw [y] <;> decide
        have hs : s < n := by
          rcases ht.2 with ⟨_, _, w3⟩ | ⟨w1, _⟩ | ⟨w1, _⟩ | ⟨w1, _⟩
          · exact absurd w3 hc33
          · exact w1
          · exact w1
          · exact w1
        have hse := hle.2.2.2.2 hs
        have i1 : (i + Int32.ofInt 1).toInt = i.toInt + 1 := t1_inc (by omega) (by omega)
        obtain ⟨c', s', e', v', ht'⟩ := TKC_ex T hC2.1.2.2.2.1
        obtain ⟨I5, J5, f1, f2, f3⟩ := RST_n (mj := mj) (mq := mq) h3 hb hR hle.2.2.1 ht'
        obtain ⟨n1, n2⟩ := tm_nx h3 hR hc33 f2 ht'
        rw [g_X12_behindOne_e]
        try simp only [↓ap1_n]
        rw [bv_n f1]
        obtain ⟨t0, t18, t33, s19, s20, s21, s22, s23, s24, s25, s26, s27, s28, s29, s30, s31, s32, t2, tv, tw⟩ := b3
        by_cases q30 : c = 30
        · -- )
          have hm40 : (40 : Int32) ∈ P := by
            rcases hg with y | y | y | y | ⟨_, y⟩
            · rw [q30] at y; exact absurd y (by decide)
            · rw [q30] at y; exact absurd y (by decide)
            · rw [q30] at y; exact absurd y (by decide)
            · rw [q30] at y; exact absurd y (by decide)
            · exact y
          obtain ⟨P2, p1, p2, p3, p4, p5, p6⟩ := pop_1 (B := B) P 0 hO (Or.inr hno) hm40
          obtain ⟨r1, r2⟩ := pop_rep (a := 1) (h35 1 (by decide)) (L := P.map mpc ++ B) q
          obtain ⟨w1, w2, w3, w4⟩ := ok_W P2 p4
          rw [if_pos (s30.mpr q30)]
          obtain ⟨⟨d1', d2'⟩, ⟨d3', d4', d5'⟩, ⟨d6', d7'⟩, d8'⟩ := f2
          obtain ⟨I6, r6, w', k1, k2, k3, k4, k5⟩ := setM_v (J := J5) (ri := r') (rj := mj) (rq := mq) (a := 3) d6' (by omega)
          rw [d7', p1] at k3
          have lw : w' = P2.length + 1 := by
            have := congrArg List.length k3
            rw [stl_len] at this
            exact this
          subst lw
          have k6 : stl (r6 400) P2.length = P2 := (List.cons.inj (show r6 400 P2.length :: stl (r6 400) P2.length = 40 :: P2 from k3)).2
          rw [bv_n k1]
          try simp only [↓ap1_n]
          have u2 : va_up I6 401 (I6 401 - 1) 402 = I6 402 := va_up_ne _ _ (by decide)
          rw [u2]
          have hl2 := okP_len P2 0 (by decide) p4
          have m1 : (I6 401 - 1).toInt = (P2.length : Int) := by
            have := i_sub (x := I6 401) (y := 1) rfl (show (1 : Int32).toInt = 1 by decide) (by omega) (by omega)
            omega
          have o6 : (I6 402).toInt = (o : Int) := by rw [k4 402 (by decide) (by decide)]; exact d8'
          have m2 : (I6 402 - 1).toInt = (o : Int) - 1 := by
            have := i_sub (x := I6 402) (y := 1) rfl (show (1 : Int32).toInt = 1 by decide) (by omega) (by omega)
            omega
          obtain ⟨I7, r7, w7, l1, l2, l3, l4, l5, l6, l7⟩ := whole_v (J := J5) (ri := r6) (rj := mj) (rq := mq) (I := va_up (va_up I6 401 (I6 401 - 1)) 402 (I6 402 - 1)) (w := P2.length) (by rw [va_up_ne _ _ (show (401 : Nat) ≠ 402 by decide), va_up_self]; exact m1) (by have := okP_len P2 0 (by decide) p4; omega) (by rw [k6, va_up_self]; omega) (by rw [va_up_self]; omega)
          rw [bv_n l1, bv_n rfl]
          rw [k6] at l3 l4
          rw [va_up_self] at l4
          have lw7 : w7 = (popW P2).length := by rw [← l3, stl_len]
          subst lw7
          have zz : ∀ f, f ≠ 398 → f ≠ 401 → f ≠ 402 → f ≠ 403 → I7 f = I5 f := fun f h1 h2 h3 h4 => by rw [l6 f h1 h2 h3 h4, va_up_ne _ _ h3, va_up_ne _ _ h2]; exact k4 f h1 h2
          have hR7 : RST n T c' v' s' e' (popW P2) (o - 1 - cntW P2) I7 J5 r7 := ⟨⟨by rw [zz 388 (by decide) (by decide) (by decide) (by decide)]; exact d1', by rw [l7 387 (by decide), k5 387 (by decide)]; exact d2'⟩, ⟨by rw [zz 391 (by decide) (by decide) (by decide) (by decide)]; exact d3', by rw [zz 392 (by decide) (by decide) (by decide) (by decide)]; exact d4', TKF_fr d5' (zz 393 (by decide) (by decide) (by decide) (by decide)) (zz 394 (by decide) (by decide) (by decide) (by decide))⟩, ⟨l2, l3⟩, by omega⟩
          obtain ⟨K, rk, e1, e2, e3, e4, e5, e6, e7, e8⟩ := rb_close (J := J) (ri := r) (rj := rj) (rq := rq) (I := I2) (w := (List.replicate q (35 : Int32) ++ (P.map mpc ++ B)).length) (o := o + q) (b := cn40 P2) (x := 29) (L := P2.map mpc ++ B) (by rw [g1, q30]) (by rw [x2, p5]) (by omega) y1 (by omega) x1 (by rw [y2, r2, p3]; omega) (by omega) (by rw [y2, r1, p2])
          rw [bn_n e1]
          rw [y2, r2, p3] at e4
          have hC3 : CST n e T (List.replicate (cntW P2) 35 ++ ((popW P2).map mpc ++ B)) (o - 1 - cntW P2 + cntW P2) (cn40 (popW P2)) cm K rk := by
            rw [w3, ← List.append_assoc, ← map_W P2]
            exact ⟨⟨by rw [e7 193 (by decide) (by decide) (by decide) (by decide) (by decide)]; exact z1, by rw [e8 192 (by decide)]; exact z2, by rw [e7 197 (by decide) (by decide) (by decide) (by decide) (by decide)]; exact z3, z4, by rw [e7 129 (by decide) (by decide) (by decide) (by decide) (by decide)]; exact z5, by rw [e7 139 (by decide) (by decide) (by decide) (by decide) (by decide)]; exact z6⟩, ⟨e2, e3⟩, by omega, e5, by rw [e7 138 (by decide) (by decide) (by decide) (by decide) (by decide)]; exact x3⟩
          have tq : tmM (I7 391).toInt (I7 393).toInt = tmM (I5 391).toInt (I5 393).toInt := by rw [zz 391 (by decide) (by decide) (by decide) (by decide), zz 393 (by decide) (by decide) (by decide) (by decide)]
          exact SRES_w (ihB N (i + Int32.ofInt 1) K rk m I7 J5 r7 (popW P2) (cntW P2) (o - 1 - cntW P2) e c' v' s' e' (by omega) hC3 ht' hR7 l5 w1 w2 (by omega) (by omega) (by omega) (by omega) (by omega) (by rw [tq]; omega)) (by rw [tq]; omega)
        · rw [if_neg (show ¬ I' 393 = 41 from fun y => q30 (s30.mp y))]
          -- + - * /
          have sign : ∀ (a1' b1' am : Int32), g_X4_rank c = a1' → mpc b1' = c → (popR a1' (P.map mpc ++ B) = (popM am P).map mpc ++ B ∧ popN a1' (P.map mpc ++ B) = 0 ∧ cn40 (popM am P) = cn40 P ∧ cn2 (popM am P) = cn2 P) → okP 0 (b1' :: popM am P) → b1' ≠ 40 → b1' ≠ 2 → a1'.toInt ≤ 7 → (25 ≤ c.toInt ∧ c.toInt ≤ 28) → SRES J rj rq mj mq n T B ob cm (bnI (g_X4_readBehindOne I2 J r rj rq) fun (x : Int32) (I3 : Nat → Int32) (_ : Nat → Int64) (r3 : Nat → Nat → Int32) (_ : Nat → Nat → Int64) (_ : Nat → Nat → Option Nat) => g_X4_readEither_L34 J rj rq N x (i + Int32.ofInt 1) I3 r3) (bnV (bnV (g_X12_settle am I5 J5 r' mj mq) fun (I4 : Nat → Int32) (_ : Nat → Int64) (r4 : Nat → Nat → Int32) (_ : Nat → Nat → Int64) (_ : Nat → Nat → Option Nat) => bnV (g_X12_push b1' I4 J5 r4 mj mq) fun (I6 : Nat → Int32) (_ : Nat → Int64) (r6 : Nat → Nat → Int32) (_ : Nat → Nat → Int64) (_ : Nat → Nat → Option Nat) => ((va_up I6 403 0, J5, r6, mj, mq) : vM)) fun (I7 : Nat → Int32) (J7 : Nat → Int64) (r7 : Nat → Nat → Int32) (_ : Nat → Nat → Int64) (_ : Nat → Nat → Option Nat) => g_X12_sum_L10 mj mq m I7 J7 r7) (tmM (I' 391).toInt (I' 393).toInt + 1) := fun a1' b1' am ha hmb hpop hok h40 h2' ha7 hcc => by
            obtain ⟨u1, u2, u3, u4⟩ := hpop
            obtain ⟨r1, r2⟩ := pop_rep (a := a1') (h35 a1' ha7) (L := P.map mpc ++ B) q
            obtain ⟨I7, r7, v1, v2, v3⟩ := op_m (mj := mj) (mq := mq) f2 (by omega) am b1'
            rw [bv_n v1]
            have pm : (popM am P).length ≤ 40 := by
              have := okP_len (b1' :: popM am P) 0 (by decide) hok
              rw [c40_n h40, c2_n h2', u3, u4] at this
              have hl : (b1' :: popM am P).length = (popM am P).length + 1 := rfl
              omega
            rw [rb_op (by rw [g1]; exact hcc), g1, ha]
            obtain ⟨K, rk, e1, e2, e3, e4, e5, e6⟩ := sa_v (J := J) (ri := r) (rj := rj) (rq := rq) (a := a1') (c := c) (K := va_up I2 137 0) (w := (List.replicate q (35 : Int32) ++ (P.map mpc ++ B)).length) (o := o + q) (by rw [va_up_ne _ _ (show (134 : Nat) ≠ 137 by decide)]; exact y1) (by omega) (by rw [va_up_ne _ _ (show (135 : Nat) ≠ 137 by decide)]; exact x1) (by rw [y2, r2, u2]; omega) (by omega)
            rw [bn_n e1]
            rw [y2, r1, u1] at e2 e3
            rw [y2, r2, u2] at e4
            have fr : ∀ f, f ≠ 132 → f ≠ 134 → f ≠ 135 → f ≠ 137 → K f = I2 f := fun f h1 h2 h3 h4 => (e5 f h1 h2 h3).trans (va_up_ne _ _ h4)
            have hC3 : CST n e T ((b1' :: popM am P).map mpc ++ B) o (cn40 (b1' :: popM am P)) cm K rk := by
              have el : (b1' :: popM am P).map mpc ++ B = c :: ((popM am P).map mpc ++ B) := by
                show mpc b1' :: _ = _
                rw [hmb]; rfl
              rw [el, c40_n h40, u3]
              exact ⟨⟨by rw [fr 193 (by decide) (by decide) (by decide) (by decide)]; exact z1, by rw [e6 192 (by decide) (by decide)]; exact z2, by rw [fr 197 (by decide) (by decide) (by decide) (by decide)]; exact z3, z4, by rw [fr 129 (by decide) (by decide) (by decide) (by decide)]; exact z5, by rw [fr 139 (by decide) (by decide) (by decide) (by decide)]; exact z6⟩, ⟨e2, e3⟩, by omega, by rw [fr 136 (by decide) (by decide) (by decide) (by decide)]; exact x2, by rw [fr 138 (by decide) (by decide) (by decide) (by decide)]; exact x3⟩
            have k137 : K 137 = 0 := by rw [e5 137 (by decide) (by decide) (by decide), va_up_self]
            have tq : tmM (I7 391).toInt (I7 393).toInt = tmM (I5 391).toInt (I5 393).toInt := by
              obtain ⟨_, ⟨p1, p2, p3⟩, _, _⟩ := v2
              obtain ⟨_, ⟨q1, q2, q3⟩, _, _⟩ := f2
              unfold tmM
              rw [p1, q1]
              by_cases y : c' = 33
              · rw [p3.2.2.1.mpr y, q3.2.2.1.mpr y]
              · have k0 : (0 : Int32).toInt = 0 := by decide
                rw [if_neg (fun z => y (p3.2.2.1.mp (Int32.toInt_inj.mp (z.trans k0.symm)))), if_neg (fun z => y (q3.2.2.1.mp (Int32.toInt_inj.mp (z.trans k0.symm))))]
            exact SRES_w (ihD N (i + Int32.ofInt 1) K rk m I7 J5 r7 (b1' :: popM am P) o e c' v' s' e' (by omega) hC3 ht' v2 v3 hok (by rw [c40_n h40, c2_n h2', u3, u4]; exact ho) (by omega) (Or.inl k137) (by omega) (by omega) (by omega) (by rw [tq]; omega) 1 (by decide)) (by rw [tq]; omega)
          obtain ⟨v1, v2, v3, v4, v5, v6⟩ := pop_5 hB P 0 hO (Or.inr hno)
          obtain ⟨w1, w2, w3, w4, w5, w6⟩ := pop_6 hB P 0 hO (Or.inr hno)
          by_cases q25 : c = 25
          · rw [if_pos (s25.mpr q25)]
            exact sign 5 3 3 (by rw [q25]; decide) (by rw [q25]; decide) ⟨v1, v2, v5, v6⟩ (Or.inr (Or.inr (Or.inr ⟨Or.inl rfl, by decide, v3⟩))) (by decide) (by decide) (by decide) (by rw [q25]; decide)
          rw [if_neg (show ¬ I' 393 = 43 from fun y => q25 (s25.mp y))]
          by_cases q26 : c = 26
          · rw [if_pos (s26.mpr q26)]
            exact sign 5 4 3 (by rw [q26]; decide) (by rw [q26]; decide) ⟨v1, v2, v5, v6⟩ (Or.inr (Or.inr (Or.inr ⟨Or.inr rfl, by decide, v3⟩))) (by decide) (by decide) (by decide) (by rw [q26]; decide)
          rw [if_neg (show ¬ I' 393 = 45 from fun y => q26 (s26.mp y))]
          simp only [if_neg (show ¬ I' 393 = 43 from fun y => q25 (s25.mp y)), if_neg (show ¬ I' 393 = 45 from fun y => q26 (s26.mp y))]
          by_cases q27 : c = 27
          · simp only [if_pos (s27.mpr q27)]
            exact sign 6 5 5 (by rw [q27]; decide) (by rw [q27]; decide) ⟨w1, w2, w5, w6⟩ (Or.inr (Or.inr (Or.inl ⟨Or.inl rfl, rfl, w3⟩))) (by decide) (by decide) (by decide) (by rw [q27]; decide)
          simp only [if_neg (show ¬ I' 393 = 42 from fun y => q27 (s27.mp y))]
          have q28 : c = 28 := by
            rcases hg with y | y | y | y | ⟨y, _⟩
            · exact absurd y q25
            · exact absurd y q26
            · exact absurd y q27
            · exact y
            · exact absurd y q30
          exact sign 6 6 5 (by rw [q28]; decide) (by rw [q28]; decide) ⟨w1, w2, w5, w6⟩ (Or.inr (Or.inr (Or.inl ⟨Or.inr rfl, rfl, w3⟩))) (by decide) (by decide) (by decide) (by rw [q28]; decide)
      · -- it ends
        have hg' : ¬ goC c (stl (r' 400) P.length) := by rw [c2]; exact hg
        rw [bn_n (goes_0 b3 c1 (by omega) hg'), if_pos (show (0 : Int32) = 0 from rfl)]
        obtain ⟨I6, r6, w', k1, k2, k3, k4, k5⟩ := setM_v (J := J') (ri := r') (rj := mj) (rq := mq) (a := 3) c1 (by omega)
        rw [bv_n k1]
        try simp only [↓ap1_n]
        rw [c2] at k3
        have lw : w' = (popM 3 P).length := by rw [← k3, stl_len]
        have no4 : ¬ (25 ≤ c.toInt ∧ c.toInt ≤ 28) := fun y => hg (by
          have d : c.toInt = 25 ∨ c.toInt = 26 ∨ c.toInt = 27 ∨ c.toInt = 28 := by omega
          rcases d with d | d | d | d
          · exact Or.inl (to_k (k := 25) d (by decide))
          · exact Or.inr (Or.inl (to_k (k := 26) d (by decide)))
          · exact Or.inr (Or.inr (Or.inl (to_k (k := 27) d (by decide))))
          · exact Or.inr (Or.inr (Or.inr (Or.inl (to_k (k := 28) d (by decide))))))
        have k0 : (0 : Int32).toInt = ((0 : Nat) : Int) := by decide
        by_cases hm40 : (40 : Int32) ∈ P
        · -- a ( is open
          obtain ⟨P2, p1, _⟩ := pop_1 (B := B) P 0 hO (Or.inr hno) hm40
          have lp : w' = P2.length + 1 := by rw [lw, p1]; rfl
          rw [if_neg (show ¬ I6 401 ≤ 0 from fun y => by have := (le_n k2 k0).mp y; omega)]
          have c30 : c ≠ 30 := fun y => hg (Or.inr (Or.inr (Or.inr (Or.inr ⟨y, hm40⟩))))
          obtain ⟨K, rk, e1, e2⟩ := rb_no (J := J) (ri := r) (rj := rj) (rq := rq) (I := I2) z5 (by rw [g1]; exact no4) (Or.inl ⟨by rw [x2]; have := mem.mp hm40; omega, by rw [g1]; exact c30⟩)
          rw [hD, bn_n e1]
          exact ⟨1, I6, J', r6, rfl, Or.inl ⟨by decide, s, by rw [k4 392 (by decide) (by decide)]; exact b2, FIN_f e2 g2 (by decide)⟩⟩
        · have z0 : cn40 P = 0 := by
            have h9 : ¬ 0 < cn40 P := fun y => hm40 (mem.mpr y)
            omega
          obtain ⟨p1, p2, p3, p4⟩ := pop_none P 0 hO (Or.inr hno) z0
          have lp : w' = 0 := by rw [lw, p1]; rfl
          subst lp
          rw [if_pos ((le_n k2 k0).mpr (Nat.le_refl _))]
          obtain ⟨q1, q2⟩ := rep_all q
          obtain ⟨u1, u2⟩ := all_app q1 p3
          refine ⟨0, I6, J', r6, rfl, Or.inr ⟨rfl, p, c, v, s, e, N + 1, i, I, r, List.replicate q 35 ++ P.map mpc, rfl, ?_, ht, ⟨⟨by rw [k4 388 (by decide) (by decide)]; exact a1, by rw [k5 387 (by decide)]; exact a2⟩, ⟨by rw [k4 391 (by decide) (by decide)]; exact b1, by rw [k4 392 (by decide) (by decide)]; exact b2, TKF_fr b3 (k4 393 (by decide) (by decide)) (k4 394 (by decide) (by decide))⟩, ⟨k2, rfl⟩, by rw [k4 402 (by decide) (by decide), d1]; omega⟩, ⟨u1, ?_, ?_⟩, no4, ⟨hi0, hip⟩, hN0, ?_⟩⟩
          · rw [List.append_assoc, u2, q2, p4, Nat.add_zero]
            rw [z0] at hC
            rw [show ob + q = o + q by omega]
            exact hC
          · rw [List.length_append, List.length_replicate, List.length_map]
            have := okP_len P 0 (by decide) hO
            omega
          · rw [u2, q2, p4]
            omega
          · rw [k4 391 (by decide) (by decide), k4 393 (by decide) (by decide)]
            omega
end PR8
/-! ===== pure: an ASK, an EITHER, both sides ===== -/
section PR9
variable {J : Nat → Int64} {rj : Nat → Nat → Int64} {rq : Nat → Nat → Option Nat} {mj : Nat → Nat → Int64} {mq : Nat → Nat → Option Nat}
/-- a SUM begins -/
theorem sum_0 {n : Nat} {T : Nat → Int32} {c v : Int32} {s e : Nat} {P : List Int32} {o : Nat} {I : Nat → Int32} {J1 : Nat → Int64} {r : Nat → Nat → Int32} (h : RST n T c v s e P o I J1 r) : ∃ I' : Nat → Int32, g_X12_sum I J1 r mj mq = g_X12_sum_L10 mj mq ((tmM (I' 391).toInt (I' 393).toInt).toNat + 1) I' J1 r ∧ RST n T c v s e [] o I' J1 r ∧ I' 403 = 0 ∧ I' 391 = I 391 ∧ I' 393 = I 393 := by
  obtain ⟨⟨a1, a2⟩, ⟨b1, b2, b3⟩, _, d1⟩ := h
  rw [g_X12_sum_e]
  try simp only [↓ap1_n]
  have z : ∀ f, f ≠ 401 → f ≠ 403 → va_up (va_up I 401 0) 403 0 f = I f := fun f h1 h2 => by rw [va_up_ne _ _ h2, va_up_ne _ _ h1]
  refine ⟨va_up (va_up I 401 0) 403 0, rfl, ⟨⟨by rw [z 388 (by decide) (by decide)]; exact a1, a2⟩, ⟨by rw [z 391 (by decide) (by decide)]; exact b1, by rw [z 392 (by decide) (by decide)]; exact b2, TKF_fr b3 (z 393 (by decide) (by decide)) (z 394 (by decide) (by decide))⟩, ⟨?_, rfl⟩, by rw [z 402 (by decide) (by decide)]; exact d1⟩, va_up_self _ _ _, z 391 (by decide) (by decide), z 393 (by decide) (by decide)⟩
  rw [va_up_ne _ _ (show (401 : Nat) ≠ 403 by decide), va_up_self]
  decide
/-- what waits ahead of an ASK: and, or -/
def okB (B : List Int32) : Prop := B = [] ∨ B = [9] ∨ B = [10] ∨ B = [10, 9]
theorem okB_l {B : List Int32} (h : okB B) : B.length ≤ 2 := by
  rcases h with h | h | h | h <;> rw [h] <;> decide
theorem okB_p {B : List Int32} (h : okB B) : popR 4 B = B ∧ popN 4 B = 0 ∧ stB B ∧ (popR 2 B = [] ∨ popR 2 B = [9]) ∧ popN 2 B = 0 ∧ popR 1 B = [] ∧ popN 1 B = 0 := by
  have r9 : ¬ g_X4_rank 9 < 1 := by decide
  have r92 : g_X4_rank 9 < 2 := by decide
  have r94 : g_X4_rank 9 < 4 := by decide
  have r10 : ¬ g_X4_rank 10 < 1 := by decide
  have r102 : ¬ g_X4_rank 10 < 2 := by decide
  have r104 : g_X4_rank 10 < 4 := by decide
  have z9 : (if (9 : Int32) = 11 ∨ (9 : Int32) = 35 then 1 else 0) = 0 := by decide
  have z10 : (if (10 : Int32) = 11 ∨ (10 : Int32) = 35 then 1 else 0) = 0 := by decide
  rcases h with h | h | h | h <;> rw [h]
  · exact ⟨rfl, rfl, trivial, Or.inl rfl, rfl, rfl, rfl⟩
  · exact ⟨popR_s r94, popN_s r94, show g_X4_rank 9 < 5 ∧ g_X4_rank 9 < 6 by decide, Or.inr (popR_s r92), popN_s r92, popR_c r9, by rw [popN_c r9, z9]; rfl⟩
  · exact ⟨popR_s r104, popN_s r104, show g_X4_rank 10 < 5 ∧ g_X4_rank 10 < 6 by decide, Or.inl (popR_c r102), by rw [popN_c r102, z10]; rfl, popR_c r10, by rw [popN_c r10, z10]; rfl⟩
  · exact ⟨popR_s r104, popN_s r104, show g_X4_rank 10 < 5 ∧ g_X4_rank 10 < 6 by decide, Or.inr ((popR_c r102).trans (popR_s r92)), by rw [popN_c r102, z10, popN_s r92, Nat.zero_add], (popR_c r10).trans (popR_c r9), by rw [popN_c r10, z10, popN_c r9, z9]; rfl⟩
theorem nots_p {B : List Int32} (h : okB B) : ∀ t : Nat, popR 4 (List.replicate t 11 ++ B) = List.replicate t 11 ++ B ∧ popN 4 (List.replicate t 11 ++ B) = 0 ∧ stB (List.replicate t 11 ++ B)
  | 0 => ⟨(okB_p h).1, (okB_p h).2.1, (okB_p h).2.2.1⟩
  | t + 1 => by
    rw [List.replicate_succ, List.cons_append]
    exact ⟨popR_s (show g_X4_rank 11 < 4 by decide), popN_s (show g_X4_rank 11 < 4 by decide), show g_X4_rank 11 < 5 ∧ g_X4_rank 11 < 6 by decide⟩
theorem nots_a : ∀ t : Nat, allR 3 (List.replicate t (11 : Int32)) ∧ cntO (List.replicate t (11 : Int32)) = t
  | 0 => ⟨fun _ h => (by cases h), rfl⟩
  | t + 1 => by
    obtain ⟨a, b⟩ := nots_a t
    rw [List.replicate_succ]
    refine ⟨fun y hy => ?_, ?_⟩
    · rcases List.mem_cons.mp hy with z | z
      · rw [z]; decide
      · exact a y z
    · show (if (11 : Int32) = 11 ∨ (11 : Int32) = 35 then 1 else 0) + cntO (List.replicate t 11) = t + 1
      rw [if_pos (Or.inl rfl), b]; omega
theorem allR_le {a b : Int32} (h : a.toInt ≤ b.toInt) {Q : List Int32} (hQ : allR b Q) : allR a Q := fun x hx y => hQ x hx (Int32.lt_iff_toInt_lt.mpr (by have := Int32.lt_iff_toInt_lt.mp y; omega))
theorem cm_rank {c : Int32} (h : 19 ≤ c.toInt ∧ c.toInt ≤ 24) : g_X4_rank c = 4 ∧ ¬ cmC c < 0 ∧ c ≠ 11 ∧ c ≠ 35 := by
  have d : c.toInt = 19 ∨ c.toInt = 20 ∨ c.toInt = 21 ∨ c.toInt = 22 ∨ c.toInt = 23 ∨ c.toInt = 24 := by omega
  rcases d with d | d | d | d | d | d
  · rw [to_k (c := c) (k := 19) d (by decide)]; decide
  · rw [to_k (c := c) (k := 20) d (by decide)]; decide
  · rw [to_k (c := c) (k := 21) d (by decide)]; decide
  · rw [to_k (c := c) (k := 22) d (by decide)]; decide
  · rw [to_k (c := c) (k := 23) d (by decide)]; decide
  · rw [to_k (c := c) (k := 24) d (by decide)]; decide
theorem cm_lt {c : Int32} (h : ¬ (19 ≤ c.toInt ∧ c.toInt ≤ 24)) : cmC c < 0 := by
  have k : ∀ x : Int32, 19 ≤ x.toInt ∧ x.toInt ≤ 24 → ¬ c = x := fun x y z => h (by rw [z]; exact y)
  unfold cmC
  rw [if_neg (k 19 (by decide)), if_neg (k 20 (by decide)), if_neg (k 21 (by decide)), if_neg (k 22 (by decide)), if_neg (k 23 (by decide)), if_neg (k 24 (by decide))]
  decide
/-- how the reading of an ASK, of an EITHER ends -/
def ARES (J : Nat → Int64) (rj : Nat → Nat → Int64) (rq : Nat → Nat → Option Nat) (mj : Nat → Nat → Int64) (mq : Nat → Nat → Option Nat) (n : Nat) (T : Nat → Int32) (B : List Int32) (o : Nat) (X : vM) (Y : Int32 × vM) (tm0 : Int) : Prop := ∃ (f : Int32) (I1 : Nat → Int32) (J1 : Nat → Int64) (r1 : Nat → Nat → Int32), Y = (f, I1, J1, r1, mj, mq) ∧ ((f ≠ 0 ∧ ∃ s : Nat, (I1 392).toInt = (s : Int) ∧ FIN J rj rq f s X) ∨ (f = 0 ∧ ∃ (p2 : Nat) (c2 v2 : Int32) (s2 e2 N2 : Nat) (i2 : Int32) (I2 : Nat → Int32) (r2 : Nat → Nat → Int32) (Q P2 : List Int32), X = g_X4_readEither_L34 J rj rq N2 0 i2 I2 r2 ∧ CST n p2 T (Q ++ B) (o + cntO Q) 0 1 I2 r2 ∧ TKC T n p2 c2 s2 e2 v2 ∧ RST n T c2 v2 s2 e2 P2 o I1 J1 r1 ∧ allR 3 Q ∧ Q.length ≤ 36 ∧ cntO Q + o ≤ 8 ∧ ¬ (25 ≤ c2.toInt ∧ c2.toInt ≤ 28) ∧ (0 ≤ i2.toInt ∧ i2.toInt ≤ (p2 : Int)) ∧ (301 - i2.toInt).toNat < N2 ∧ tmM (I1 391).toInt (I1 393).toInt < tm0))
theorem nots_L {x : Int32} {J1 : Nat → Int64} {t : Nat} (hx : x.toInt = (t : Int)) (ht : t ≤ 100) : ∀ (m : Nat) (y : Int32) (k : Nat) (I : Nat → Int32) (r : Nat → Nat → Int32), y.toInt = (k : Int) → k ≤ t → t - k < m → ∃ (I' : Nat → Int32) (r' : Nat → Nat → Int32), g_X12_ask_L105 mj mq x J1 m y I r = (0, I', J1, r', mj, mq) ∧ (∀ f, f ≠ 398 → I' f = I f) ∧ ∀ q, q ≠ 384 → r' q = r q := by
  intro m
  induction m with
  | zero => intro _ _ _ _ _ _ h; exact absurd h (Nat.not_lt_zero _)
  | succ m ih =>
    intro y k I r hy hk hm
    rw [g_X12_ask_L105_e]
    try simp only [↓ap1_n]
    by_cases c : x ≤ y
    · rw [if_pos c]
      exact ⟨I, r, rfl, fun _ _ => rfl, fun _ _ => rfl⟩
    · have c1 : ¬ t ≤ k := fun q => c ((le_n hx hy).mpr q)
      rw [if_neg c]
      obtain ⟨I3, r3, e1, e2, e3⟩ := emit_m (J := J1) (ri := r) (rj := mj) (rq := mq) (a := 20) (b := 0) (I := I)
      rw [bv_n e1]
      obtain ⟨I', r', i1, i2, i3⟩ := ih (y + Int32.ofInt 1) (k + 1) I3 r3 (up_i hy (by omega)) (by omega) (by omega)
      exact ⟨I', r', i1, fun f hf => (i2 f hf).trans (e2 f hf), fun q hq => (i3 q hq).trans (e3 q hq)⟩
theorem RST_fr {n : Nat} {T : Nat → Int32} {c v : Int32} {s e : Nat} {P : List Int32} {o : Nat} {I I' : Nat → Int32} {J1 : Nat → Int64} {r r' : Nat → Nat → Int32} (h : RST n T c v s e P o I J1 r) (hI : ∀ f, f ≠ 398 → I' f = I f) (hr : ∀ q, q ≠ 384 → r' q = r q) : RST n T c v s e P o I' J1 r' := by
  obtain ⟨⟨a1, a2⟩, ⟨b1, b2, b3⟩, ⟨c1, c2⟩, d1⟩ := h
  exact ⟨⟨by rw [hI 388 (by decide)]; exact a1, by rw [hr 387 (by decide)]; exact a2⟩, ⟨by rw [hI 391 (by decide)]; exact b1, by rw [hI 392 (by decide)]; exact b2, TKF_fr b3 (hI 393 (by decide)) (hI 394 (by decide))⟩, ⟨by rw [hI 401 (by decide)]; exact c1, by rw [hr 400 (by decide)]; exact c2⟩, by rw [hI 402 (by decide)]; exact d1⟩
theorem no_33 {T : Nat → Int32} {n p s e : Nat} {c v : Int32} (ht : TKC T n p c s e v) (q : c ≠ 33) : s < n := by
  rcases ht.2 with ⟨_, _, w3⟩ | ⟨w1, _⟩ | ⟨w1, _⟩ | ⟨w1, _⟩
  · exact absurd w3 q
  · exact w1
  · exact w1
  · exact w1
theorem ask_sim {n : Nat} {T : Nat → Int32} (h3 : n ≤ 300) (hb : ∀ j, j < n → 0 ≤ (T j).toInt) {B : List Int32} (hB : okB B) {o0 : Nat} : ∀ (k : Nat) (N : Nat) (i x : Int32) (I : Nat → Int32) (r : Nat → Nat → Int32) (m : Nat) (I' : Nat → Int32) (J' : Nat → Int64) (r' : Nat → Nat → Int32) (P : List Int32) (t p : Nat) (c v : Int32) (s e : Nat), n - p < k → CST n p T (List.replicate t 11 ++ B) (o0 + t) 0 0 I r → I 137 ≠ 0 → TKC T n p c s e v → RST n T c v s e P (o0 + t) I' J' r' → x.toInt = (t : Int) → o0 + t ≤ 8 → 0 ≤ i.toInt → i.toInt ≤ (p : Int) → (301 - i.toInt).toNat < N → (tmM (I' 391).toInt (I' 393).toInt).toNat < m → ∀ d : Int32, d ≠ 0 → ARES J rj rq mj mq n T B o0 (g_X4_readEither_L34 J rj rq N d i I r) (g_X12_ask_L2 r' mj mq m x I' J') (tmM (I' 391).toInt (I' 393).toInt) := by
  intro k
  induction k with
  | zero => intro _ _ _ _ _ _ _ _ _ _ _ _ _ _ _ _ h; exact absurd h (Nat.not_lt_zero _)
  | succ k ih =>
    intro N i x I r m I' J' r' P t p c v s e hk hC haa ht hR hx ho hi0 hip hN hm d hd
    have hle := TKC_le ht
    have bl := okB_l hB
    cases m with
    | zero => exact absurd hm (Nat.not_lt_zero _)
    | succ m =>
    have hR' := hR
    obtain ⟨⟨a1, a2⟩, ⟨b1, b2, b3⟩, ⟨c1, c2⟩, d1⟩ := hR'
    rw [g_X12_ask_L2_e]
    try simp only [↓ap1_n]
    rw [bn_n (word_not b3)]
    by_cases q : c = 11
    · -- not
      have hs := no_33 ht (by rw [q]; decide)
      have hse := hle.2.2.2.2 hs
      have i1 : (i + Int32.ofInt 1).toInt = i.toInt + 1 := t1_inc (by omega) (by omega)
      rw [if_pos q, if_neg (show ¬ (1 : Int32) = 0 by decide)]
      cases N with
      | zero => exact absurd hN (Nat.not_lt_zero _)
      | succ N =>
      obtain ⟨I2, ⟨g1, g2, g3⟩, hC2, hA, hD, _⟩ := CL_s (J := J) (rj := rj) (rq := rq) h3 hC ht (i := i) (by omega) N
      rw [hD d hd]
      have hC2' := hC2
      obtain ⟨⟨z1, z2, z3, z4, z5, z6⟩, ⟨y1, y2⟩, x1, x2, x3⟩ := hC2'
      have lenL : (List.replicate t (11 : Int32) ++ B).length = t + B.length := by rw [List.length_append, List.length_replicate]
      have op : (I2 194 = 26 ∧ (11 : Int32) = 35) ∨ (I2 194 = 29 ∧ (11 : Int32) = 29) ∨ (I2 194 = 11 ∧ I2 137 ≠ 0 ∧ (11 : Int32) = 11) := Or.inr (Or.inr ⟨by rw [g1, q], by rw [hA]; exact haa, rfl⟩)
      have k8 : (8 : Int32).toInt = ((8 : Nat) : Int) := by decide
      by_cases q8 : o0 + t = 8
      · rw [if_pos ((eq_n d1 k8).mpr q8)]
        obtain ⟨K, rk, e1, e2⟩ := open_f (J := J) (ri := r) (rj := rj) (rq := rq) (t := 11) z5 (by omega)
        rw [bn_n (ro_op op e1)]
        exact ⟨3, I', J', r', rfl, Or.inl ⟨by decide, s, b2, FIN_f e2 g2 (by decide)⟩⟩
      · rw [if_neg (fun y => q8 ((eq_n d1 k8).mp y))]
        obtain ⟨K, e1, e2, e3, e4, e5, e6⟩ := open_v (J := J) (ri := r) (rj := rj) (rq := rq) (t := 11) (Or.inr (Or.inl rfl)) x1 (by omega) y1 (by omega)
        rw [bn_n (ro_op op e1)]
        obtain ⟨c', s', e', v', ht'⟩ := TKC_ex T hC2.1.2.2.2.1
        have zz : ∀ f, f ≠ 402 → va_up I' 402 (I' 402 + 1) f = I' f := fun f f1 => va_up_ne _ _ f1
        have hR2 : RST n T c v s e P (o0 + (t + 1)) (va_up I' 402 (I' 402 + 1)) J' r' := ⟨⟨by rw [zz 388 (by decide)]; exact a1, a2⟩, ⟨by rw [zz 391 (by decide)]; exact b1, by rw [zz 392 (by decide)]; exact b2, TKF_fr b3 (zz 393 (by decide)) (zz 394 (by decide))⟩, ⟨by rw [zz 401 (by decide)]; exact c1, c2⟩, by rw [va_up_self]; exact (upN (p := o0 + t) d1 (by omega))⟩
        obtain ⟨I5, J5, f1, f2, f3⟩ := RST_n (mj := mj) (mq := mq) h3 hb hR2 hle.2.2.1 ht'
        rw [bv_n f1]
        obtain ⟨n1, n2⟩ := tm_nx h3 hR (by rw [q]; decide) f2 ht'
        have hC3 : CST n e T (List.replicate (t + 1) 11 ++ B) (o0 + (t + 1)) 0 0 K (va_up r 133 (upd (r 133) (List.replicate t (11 : Int32) ++ B).length 11)) := by
          rw [List.replicate_succ]
          show CST n e T (11 :: (List.replicate t 11 ++ B)) (o0 + (t + 1)) 0 0 K _
          refine ⟨⟨by rw [e6 193 (by decide) (by decide) (by decide) (by decide)]; exact z1, by rw [va_up_ne _ _ (show (192 : Nat) ≠ 133 by decide)]; exact z2, by rw [e6 197 (by decide) (by decide) (by decide) (by decide)]; exact z3, z4, by rw [e6 129 (by decide) (by decide) (by decide) (by decide)]; exact z5, by rw [e6 139 (by decide) (by decide) (by decide) (by decide)]; exact z6⟩, ⟨e3, ?_⟩, e2, ?_, by rw [e6 138 (by decide) (by decide) (by decide) (by decide)]; exact x3⟩
          · show stl _ ((List.replicate t (11 : Int32) ++ B).length + 1) = _
            rw [va_up_self, stl_push, y2]
          · rw [e4, if_neg (show ¬ (11 : Int32) = 29 by decide)]; exact x2
        have a137 : K 137 ≠ 0 := by rw [e5, if_pos (rfl : (11 : Int32) = 11)]; decide
        obtain ⟨f, I1, J1, r1, ee, hh⟩ := ih N (i + Int32.ofInt 1) (x + Int32.ofInt 1) K _ m I5 J5 r' P (t + 1) e c' v' s' e' (by omega) hC3 a137 ht' f2 (up_i hx (by omega)) (by omega) (by omega) (by omega) (by omega) (by omega) 1 (by decide)
        refine ⟨f, I1, J1, r1, ee, ?_⟩
        rcases hh with y | ⟨y, p2, c2', v2, s2, e2', N2, i2, I2', r2, Q, P2, w1, w2, w3, w4, w5, w6, w7, w8, w9, w10, w11⟩
        · exact Or.inl y
        · exact Or.inr ⟨y, p2, c2', v2, s2, e2', N2, i2, I2', r2, Q, P2, w1, w2, w3, w4, w5, w6, w7, w8, w9, w10, by omega⟩
    · -- SUM, a comparison, SUM
      rw [if_neg q, if_pos (show (0 : Int32) = 0 from rfl)]
      obtain ⟨np1, np2, np3⟩ := nots_p hB t
      obtain ⟨Ia, u1, u2, u3, u4, u5⟩ := sum_0 (mj := mj) (mq := mq) hR
      rw [u1]
      have lenB : (List.replicate t (11 : Int32) ++ B).length = t + B.length := by rw [List.length_append, List.length_replicate]
      have r1 := (sum_sim (J := J) (rj := rj) (rq := rq) (mj := mj) (mq := mq) h3 hb np3 (by omega) (cm := 0) (ob := o0 + t) (k + 1)).1 N i I r _ Ia J' r' [] (o0 + t) p c v s e hk hC ht u2 u3 trivial rfl ho (Or.inr q) hi0 hip hN (Nat.lt_succ_self _) d hd
      obtain ⟨f, I1, J1, rr1, ee, hh⟩ := r1
      rw [ee, bn_n rfl]
      rcases hh with ⟨y, s0, y1, y2⟩ | ⟨y, p2, cc, v2, s2, e2, N2, i2, I2, r2, Q, w1, w2, w3, w4, ⟨w5, w5l, w5c⟩, w6, w7, w8, w9⟩
      · rw [if_neg y]
        exact ⟨f, I1, J1, rr1, rfl, Or.inl ⟨y, s0, y1, y2⟩⟩
      · subst y
        rw [if_pos (show (0 : Int32) = 0 from rfl), bn_n (comp_m w4.2.1.2.2), w1]
        have hle2 := TKC_le w3
        cases N2 with
        | zero => exact absurd w8 (Nat.not_lt_zero _)
        | succ N2 =>
        have p2n := w2.1.2.2.2.1
        obtain ⟨I3, ⟨g1, g2, g3⟩, hC3, hA3, _, hD3⟩ := CL_s (J := J) (rj := rj) (rq := rq) h3 w2 w3 (i := i2) (by omega) N2
        have hC3' := hC3
        obtain ⟨⟨z1, z2, z3, z4, z5, z6⟩, ⟨y1, y2⟩, x1, x2, x3⟩ := hC3'
        by_cases qc : 19 ≤ cc.toInt ∧ cc.toInt ≤ 24
        · obtain ⟨cr1, cr2, cr3, cr4⟩ := cm_rank qc
          have hs := no_33 w3 (fun z => by rw [z] at qc; exact absurd qc.2 (by decide))
          have hse := hle2.2.2.2.2 hs
          have i1 : (i2 + Int32.ofInt 1).toInt = i2.toInt + 1 := t1_inc (by omega) (by omega)
          rw [if_pos (show (0 : Int32) ≤ cmC cc from Int32.not_lt.mp cr2)]
          obtain ⟨c', s', e', v', ht'⟩ := TKC_ex T hC3.1.2.2.2.1
          obtain ⟨I5, J5, f1, f2, f3⟩ := RST_n (mj := mj) (mq := mq) h3 hb w4 hle2.2.2.1 ht'
          rw [bv_n f1]
          obtain ⟨n1, n2⟩ := tm_nx h3 w4 (fun z => by rw [z] at qc; exact absurd qc.2 (by decide)) f2 ht'
          obtain ⟨pa1, pa2⟩ := pop_all (a := 4) (L := List.replicate t 11 ++ B) Q (allR_le (by decide) w5)
          rw [np1] at pa1
          rw [np2, Nat.add_zero] at pa2
          have lQ : (Q ++ (List.replicate t (11 : Int32) ++ B)).length = Q.length + (t + B.length) := by rw [List.length_append, lenB]
          obtain ⟨K, rk, e1, e2q, e3, e4, e5, e6⟩ := sa_v (J := J) (ri := r2) (rj := rj) (rq := rq) (a := 4) (c := cc) (K := va_up (va_up I3 137 0) 138 1) (w := (Q ++ (List.replicate t 11 ++ B)).length) (o := o0 + t + cntO Q) (by rw [va_up_ne _ _ (show (134 : Nat) ≠ 138 by decide), va_up_ne _ _ (show (134 : Nat) ≠ 137 by decide)]; exact y1) (by omega) (by rw [va_up_ne _ _ (show (135 : Nat) ≠ 138 by decide), va_up_ne _ _ (show (135 : Nat) ≠ 137 by decide)]; exact x1) (by rw [y2, pa2]; omega) (by omega)
          rw [y2, pa1] at e2q e3
          rw [y2, pa2] at e4
          rw [hD3, rb_cmp (by rw [g1]; exact qc) (by rw [x2]; decide) x3, g1, cr1, bn_n e1]
          have fr : ∀ f, f ≠ 132 → f ≠ 134 → f ≠ 135 → f ≠ 137 → f ≠ 138 → K f = I3 f := fun f h1 h2 h3 h4 h5 => by rw [e5 f h1 h2 h3, va_up_ne _ _ h5, va_up_ne _ _ h4]
          have k137 : K 137 = 0 := by rw [e5 137 (by decide) (by decide) (by decide), va_up_ne _ _ (show (137 : Nat) ≠ 138 by decide), va_up_self]
          have hC4 : CST n e2 T (([] : List Int32).map mpc ++ (cc :: (List.replicate t 11 ++ B))) (o0 + t) (cn40 []) 1 K rk := ⟨⟨by rw [fr 193 (by decide) (by decide) (by decide) (by decide) (by decide)]; exact z1, by rw [e6 192 (by decide) (by decide)]; exact z2, by rw [fr 197 (by decide) (by decide) (by decide) (by decide) (by decide)]; exact z3, z4, by rw [fr 129 (by decide) (by decide) (by decide) (by decide) (by decide)]; exact z5, by rw [fr 139 (by decide) (by decide) (by decide) (by decide) (by decide)]; exact z6⟩, ⟨e2q, e3⟩, by omega, by rw [fr 136 (by decide) (by decide) (by decide) (by decide) (by decide)]; exact x2, by rw [e5 138 (by decide) (by decide) (by decide), va_up_self]⟩
          obtain ⟨Ib, b1', b2', b3', b4', b5'⟩ := sum_0 (mj := mj) (mq := mq) f2
          rw [b1']
          have stc : stB (cc :: (List.replicate t 11 ++ B)) := ⟨by rw [cr1]; decide, by rw [cr1]; decide⟩
          obtain ⟨f', Ic, Jc, rc, ee2, hh2⟩ := (sum_sim (J := J) (rj := rj) (rq := rq) (mj := mj) (mq := mq) h3 hb stc (by show (List.replicate t (11 : Int32) ++ B).length + 1 ≤ 11; omega) (cm := 1) (ob := o0 + t) (n - e2 + 1)).1 N2 (i2 + Int32.ofInt 1) K rk _ Ib J5 rr1 [] (o0 + t) e2 c' v' s' e' (Nat.lt_succ_self _) hC4 ht' b2' b3' trivial rfl ho (Or.inl k137) (by omega) (by omega) (by omega) (Nat.lt_succ_self _) 1 (by decide)
          rw [ee2, bn_n rfl]
          rcases hh2 with ⟨y, s0, y1', y2'⟩ | ⟨y, p3, c3, v3, s3, e3', N3, i3, I6, r6, Q2, q1, q2, q3, q4, ⟨q5, q5l, q5c⟩, q6, q7, q8, q9⟩
          · rw [if_neg y]
            exact ⟨f', Ic, Jc, rc, rfl, Or.inl ⟨y, s0, y1', y2'⟩⟩
          · subst y
            rw [if_pos (show (0 : Int32) = 0 from rfl)]
            obtain ⟨Id, rd, d1', d2', d3'⟩ := emit_m (J := Jc) (ri := rc) (rj := mj) (rq := mq) (a := cmC cc) (b := 0) (I := Ic)
            rw [bv_n d1']
            have hRd := RST_fr q4 d2' d3'
            obtain ⟨⟨m1, m2⟩, ⟨m3, m4, m5⟩, ⟨m6, m7⟩, m8⟩ := hRd
            have k0 : (0 : Int32).toInt = 0 := by decide
            obtain ⟨Ie, re, n1', n2', n3'⟩ := nots_L (mj := mj) (mq := mq) (J1 := Jc) hx (by omega) ((x.toInt - (0 : Int32).toInt).toNat + 1) 0 0 (va_up Id 402 (Id 402 - x)) rd (by decide) (Nat.zero_le _) (by rw [hx, k0]; omega)
            rw [n1']
            have zz : ∀ f, f ≠ 398 → f ≠ 402 → Ie f = Id f := fun f h1 h2 => (n2' f h1).trans (va_up_ne _ _ h2)
            have o4 : (Id 402 - x).toInt = (o0 : Int) := by
              have := i_sub m8 hx (by omega) (by omega)
              omega
            obtain ⟨na1, na2⟩ := nots_a t
            have aQ : allR 3 (cc :: List.replicate t 11) := fun y hy => by
              rcases List.mem_cons.mp hy with z | z
              · rw [z, cr1]; decide
              · exact na1 y z
            obtain ⟨u1', u2'⟩ := all_app (Q := Q2) (allR_le (show (3 : Int32).toInt ≤ (5 : Int32).toInt by decide) q5) aQ
            have cQ : cntO (cc :: List.replicate t 11) = t := by
              show (if cc = 11 ∨ cc = 35 then 1 else 0) + cntO (List.replicate t 11) = t
              rw [if_neg (fun z => by rcases z with z | z; exact cr3 z; exact cr4 z), na2, Nat.zero_add]
            rw [cQ] at u2'
            have lQ2 : (Q2 ++ cc :: List.replicate t 11).length = Q2.length + (t + 1) := by rw [List.length_append, List.length_cons, List.length_replicate]
            have eQ : (Q2 ++ cc :: List.replicate t 11) ++ B = Q2 ++ (cc :: (List.replicate t 11 ++ B)) := by rw [List.append_assoc]; rfl
            refine ⟨0, Ie, Jc, re, rfl, Or.inr ⟨rfl, p3, c3, v3, s3, e3', N3, i3, I6, r6, Q2 ++ cc :: List.replicate t 11, [], q1, ?_, q3, ⟨⟨by rw [zz 388 (by decide) (by decide)]; exact m1, by rw [n3' 387 (by decide)]; exact m2⟩, ⟨by rw [zz 391 (by decide) (by decide)]; exact m3, by rw [zz 392 (by decide) (by decide)]; exact m4, TKF_fr m5 (zz 393 (by decide) (by decide)) (zz 394 (by decide) (by decide))⟩, ⟨by rw [zz 401 (by decide) (by decide)]; exact m6, by rw [n3' 400 (by decide)]; exact m7⟩, by rw [n2' 402 (by decide), va_up_self]; exact o4⟩, u1', by omega, by omega, q6, q7, q8, ?_⟩⟩
            · rw [eQ, u2', show o0 + (cntO Q2 + t) = o0 + t + cntO Q2 by omega]
              exact q2
            · rw [zz 391 (by decide) (by decide), zz 393 (by decide) (by decide), d2' 391 (by decide), d2' 393 (by decide)]
              rw [b4', b5'] at q9
              rw [u4, u5] at w9
              omega
        · rw [if_neg (show ¬ (0 : Int32) ≤ cmC cc from Int32.not_le.mpr (cm_lt qc))]
          obtain ⟨K, rk, e1, e2'⟩ := rb_no (J := J) (ri := r2) (rj := rj) (rq := rq) (I := I3) z5 (by rw [g1]; exact w6) (Or.inr (Or.inl ⟨by rw [x2]; decide, x3, by rw [g1]; exact qc⟩))
          rw [hD3, bn_n e1]
          exact ⟨1, I1, J1, rr1, rfl, Or.inl ⟨by decide, s2, w4.2.1.2.1, FIN_f e2' g2 (by decide)⟩⟩
end PR9
/-! ===== pure: an EITHER, both sides ===== -/
section PR10
variable {J : Nat → Int64} {rj : Nat → Nat → Int64} {rq : Nat → Nat → Option Nat} {mj : Nat → Nat → Int64} {mq : Nat → Nat → Option Nat}
theorem eith_a {I : Nat → Int32} {J1 : Nat → Int64} {r : Nat → Nat → Int32} {I2 : Nat → Int32} {J2 : Nat → Int64} {r2 : Nat → Nat → Int32} {c v x1 x2 : Int32} {m : Nat} (ha : g_X12_ask I J1 r mj mq = (0, I2, J2, r2, mj, mq)) (hT : TKF I2 J2 c v) (qa : c = 10) : ∃ (I3 : Nat → Int32) (r3 : Nat → Nat → Int32), (∀ f, f ≠ 398 → I3 f = I2 f) ∧ (∀ q, q ≠ 384 → r3 q = r2 q) ∧ g_X12_either_L6 mj mq (m + 1) x1 x2 1 I J1 r = bnV (g_X12_nextToken_x I3 J2 r3 mj mq) fun (I4 : Nat → Int32) (J4 : Nat → Int64) (_ : Nat → Nat → Int32) (_ : Nat → Nat → Int64) (_ : Nat → Nat → Option Nat) => g_X12_either_L6 mj mq m 1 x2 1 I4 J4 r3 := by
  rw [g_X12_either_L6_e]
  try simp only [↓ap1_n]
  rw [if_neg (show ¬ (1 : Int32) = 0 by decide), bn_n ha, if_pos (show (0 : Int32) = 0 from rfl)]
  have q2 : ∀ K : Nat → Int32, TKF K J2 c v → K 393 = 2 := fun K h => by
    obtain ⟨t0, t18, t33, s19, s20, s21, s22, s23, s24, s25, s26, s27, s28, s29, s30, s31, s32, t2, tv, tw⟩ := h
    exact t2.mpr (Or.inl ⟨by rw [qa]; decide, by rw [qa]; decide⟩)
  have nc : ∀ K : Nat → Int32, TKF K J2 c v → ¬ lg_cmp (J2 395) 28530 = 0 := fun K h y => by
    have := (word_or h).mp ⟨q2 K h, y⟩
    rw [qa] at this; exact absurd this (by decide)
  by_cases z1 : x1 = 0
  · rw [if_pos z1]
    rw [bn_n (show g_X12_isWord_x (g_X12_w3_x 97 110 100) I2 J2 r2 mj mq = (1, I2, J2, r2, mj, mq) by rw [word_and hT, if_pos qa]), if_pos (q2 I2 hT), if_neg (nc I2 hT), if_neg (show ¬ (1 : Int32) = 0 by decide)]
    exact ⟨I2, r2, fun f _ => rfl, fun q _ => rfl, rfl⟩
  · rw [if_neg z1]
    obtain ⟨I3, r3, e1, e2, e3⟩ := emit_m (J := J2) (ri := r2) (rj := mj) (rq := mq) (a := 21) (b := 0) (I := I2)
    rw [bv_n e1]
    have hT3 : TKF I3 J2 c v := TKF_fr hT (e2 393 (by decide)) (e2 394 (by decide))
    rw [bn_n (show g_X12_isWord_x (g_X12_w3_x 97 110 100) I3 J2 r3 mj mq = (1, I3, J2, r3, mj, mq) by rw [word_and hT3, if_pos qa]), if_pos (q2 I3 hT3), if_neg (nc I3 hT3), if_neg (show ¬ (1 : Int32) = 0 by decide)]
    exact ⟨I3, r3, e2, e3, rfl⟩
theorem eith_o {I : Nat → Int32} {J1 : Nat → Int64} {r : Nat → Nat → Int32} {I2 : Nat → Int32} {J2 : Nat → Int64} {r2 : Nat → Nat → Int32} {c v x1 x2 : Int32} {m : Nat} (ha : g_X12_ask I J1 r mj mq = (0, I2, J2, r2, mj, mq)) (hT : TKF I2 J2 c v) (qo : c = 9) : ∃ (I3 : Nat → Int32) (r3 : Nat → Nat → Int32), (∀ f, f ≠ 398 → I3 f = I2 f) ∧ (∀ q, q ≠ 384 → r3 q = r2 q) ∧ g_X12_either_L6 mj mq (m + 1) x1 x2 1 I J1 r = bnV (g_X12_nextToken_x I3 J2 r3 mj mq) fun (I4 : Nat → Int32) (J4 : Nat → Int64) (_ : Nat → Nat → Int32) (_ : Nat → Nat → Int64) (_ : Nat → Nat → Option Nat) => g_X12_either_L6 mj mq m 0 1 1 I4 J4 r3 := by
  rw [g_X12_either_L6_e]
  try simp only [↓ap1_n]
  rw [if_neg (show ¬ (1 : Int32) = 0 by decide), bn_n ha, if_pos (show (0 : Int32) = 0 from rfl)]
  have na : ¬ c = 10 := fun y => by rw [qo] at y; exact absurd y (by decide)
  by_cases z1 : x1 = 0
  · rw [if_pos z1]
    rw [bn_n (show g_X12_isWord_x (g_X12_w3_x 97 110 100) I2 J2 r2 mj mq = (0, I2, J2, r2, mj, mq) by rw [word_and hT, if_neg na]), if_pos ((word_or hT).mpr qo).1, if_pos ((word_or hT).mpr qo).2, if_pos (show (0 : Int32) = 0 from rfl)]
    by_cases z2 : x2 = 0
    · rw [if_pos z2]
      exact ⟨I2, r2, fun f _ => rfl, fun q _ => rfl, rfl⟩
    · rw [if_neg z2]
      obtain ⟨I5, r5, f1, f2, f3⟩ := emit_m (J := J2) (ri := r2) (rj := mj) (rq := mq) (a := 22) (b := 0) (I := I2)
      rw [bv_n f1]
      exact ⟨I5, r5, f2, f3, rfl⟩
  · rw [if_neg z1]
    obtain ⟨I3, r3, e1, e2, e3⟩ := emit_m (J := J2) (ri := r2) (rj := mj) (rq := mq) (a := 21) (b := 0) (I := I2)
    rw [bv_n e1]
    have hT3 : TKF I3 J2 c v := TKF_fr hT (e2 393 (by decide)) (e2 394 (by decide))
    rw [bn_n (show g_X12_isWord_x (g_X12_w3_x 97 110 100) I3 J2 r3 mj mq = (0, I3, J2, r3, mj, mq) by rw [word_and hT3, if_neg na]), if_pos ((word_or hT3).mpr qo).1, if_pos ((word_or hT3).mpr qo).2, if_pos (show (0 : Int32) = 0 from rfl)]
    by_cases z2 : x2 = 0
    · rw [if_pos z2]
      exact ⟨I3, r3, e2, e3, rfl⟩
    · rw [if_neg z2]
      obtain ⟨I5, r5, f1, f2, f3⟩ := emit_m (J := J2) (ri := r3) (rj := mj) (rq := mq) (a := 22) (b := 0) (I := I3)
      rw [bv_n f1]
      exact ⟨I5, r5, fun f hf => (f2 f hf).trans (e2 f hf), fun q hq => (f3 q hq).trans (e3 q hq), rfl⟩
theorem eith_e {I : Nat → Int32} {J1 : Nat → Int64} {r : Nat → Nat → Int32} {I2 : Nat → Int32} {J2 : Nat → Int64} {r2 : Nat → Nat → Int32} {c v x1 x2 : Int32} {m : Nat} (ha : g_X12_ask I J1 r mj mq = (0, I2, J2, r2, mj, mq)) (hT : TKF I2 J2 c v) (na : ¬ c = 10) (no : ¬ c = 9) : ∃ (I3 : Nat → Int32) (r3 : Nat → Nat → Int32), (∀ f, f ≠ 398 → I3 f = I2 f) ∧ (∀ q, q ≠ 384 → r3 q = r2 q) ∧ g_X12_either_L6 mj mq (m + 1) x1 x2 1 I J1 r = g_X12_either_L6 mj mq m 0 0 0 I3 J2 r3 := by
  rw [g_X12_either_L6_e]
  try simp only [↓ap1_n]
  rw [if_neg (show ¬ (1 : Int32) = 0 by decide), bn_n ha, if_pos (show (0 : Int32) = 0 from rfl)]
  by_cases z1 : x1 = 0
  · rw [if_pos z1]
    rw [bn_n (show g_X12_isWord_x (g_X12_w3_x 97 110 100) I2 J2 r2 mj mq = (0, I2, J2, r2, mj, mq) by rw [word_and hT, if_neg na])]
    have sk : ∀ A B : Int32 × vM, (if I2 393 = 2 then (if lg_cmp (J2 395) 28530 = 0 then A else B) else B) = B := fun A B => by
      by_cases y : I2 393 = 2
      · rw [if_pos y, if_neg (fun z => no ((word_or hT).mp ⟨y, z⟩))]
      · rw [if_neg y]
    rw [sk, if_pos (show (0 : Int32) = 0 from rfl)]
    by_cases z2 : x2 = 0
    · rw [if_pos z2]
      exact ⟨I2, r2, fun f _ => rfl, fun q _ => rfl, rfl⟩
    · rw [if_neg z2]
      obtain ⟨I5, r5, f1, f2, f3⟩ := emit_m (J := J2) (ri := r2) (rj := mj) (rq := mq) (a := 22) (b := 0) (I := I2)
      rw [bv_n f1]
      exact ⟨I5, r5, f2, f3, rfl⟩
  · rw [if_neg z1]
    obtain ⟨I3, r3, e1, e2, e3⟩ := emit_m (J := J2) (ri := r2) (rj := mj) (rq := mq) (a := 21) (b := 0) (I := I2)
    rw [bv_n e1]
    have hT3 : TKF I3 J2 c v := TKF_fr hT (e2 393 (by decide)) (e2 394 (by decide))
    rw [bn_n (show g_X12_isWord_x (g_X12_w3_x 97 110 100) I3 J2 r3 mj mq = (0, I3, J2, r3, mj, mq) by rw [word_and hT3, if_neg na])]
    have sk : ∀ A B : Int32 × vM, (if I3 393 = 2 then (if lg_cmp (J2 395) 28530 = 0 then A else B) else B) = B := fun A B => by
      by_cases y : I3 393 = 2
      · rw [if_pos y, if_neg (fun z => no ((word_or hT3).mp ⟨y, z⟩))]
      · rw [if_neg y]
    rw [sk, if_pos (show (0 : Int32) = 0 from rfl)]
    by_cases z2 : x2 = 0
    · rw [if_pos z2]
      exact ⟨I3, r3, e2, e3, rfl⟩
    · rw [if_neg z2]
      obtain ⟨I5, r5, f1, f2, f3⟩ := emit_m (J := J2) (ri := r3) (rj := mj) (rq := mq) (a := 22) (b := 0) (I := I3)
      rw [bv_n f1]
      exact ⟨I5, r5, fun f hf => (f2 f hf).trans (e2 f hf), fun q hq => (f3 q hq).trans (e3 q hq), rfl⟩
theorem CL_139 {N : Nat} {d i : Int32} {I : Nat → Int32} {r : Nat → Nat → Int32} (h0 : I 129 = 0) (h : I 139 ≠ 0) : g_X4_readEither_L34 J rj rq N d i I r = (I, J, r, rj, rq) := by
  cases N with
  | zero => rfl
  | succ N =>
    rw [g_X4_readEither_L34_e]
    try simp only [↓ap1_n]
    by_cases c : (300 : Int32) < i
    · rw [if_pos c]
    · rw [if_neg c, if_pos h0, if_neg h]
/-- what waits ahead of an ASK -/
def bB (x1 x2 : Int32) : List Int32 := if x1 = 0 then (if x2 = 0 then [] else [9]) else (if x2 = 0 then [10] else [10, 9])
theorem bB_ok (x1 x2 : Int32) : okB (bB x1 x2) := by
  unfold bB
  by_cases a : x1 = 0
  · rw [if_pos a]
    by_cases b : x2 = 0
    · rw [if_pos b]; exact Or.inl rfl
    · rw [if_neg b]; exact Or.inr (Or.inl rfl)
  · rw [if_neg a]
    by_cases b : x2 = 0
    · rw [if_pos b]; exact Or.inr (Or.inr (Or.inl rfl))
    · rw [if_neg b]; exact Or.inr (Or.inr (Or.inr rfl))
theorem bB_and (x1 x2 : Int32) : 10 :: popR 2 (bB x1 x2) = bB 1 x2 := by
  unfold bB
  rw [if_neg (show ¬ (1 : Int32) = 0 by decide)]
  by_cases a : x1 = 0
  · rw [if_pos a]
    by_cases b : x2 = 0
    · rw [if_pos b, if_pos b]; rfl
    · rw [if_neg b, if_neg b, popR_s (show g_X4_rank 9 < 2 by decide)]
  · rw [if_neg a]
    by_cases b : x2 = 0
    · rw [if_pos b, popR_c (show ¬ g_X4_rank 10 < 2 by decide)]; rfl
    · rw [if_neg b, popR_c (show ¬ g_X4_rank 10 < 2 by decide), popR_s (show g_X4_rank 9 < 2 by decide)]
theorem bB_or : ([9] : List Int32) = bB 0 1 := by
  unfold bB
  rw [if_pos rfl, if_neg (show ¬ (1 : Int32) = 0 by decide)]
/-- how the reading of an EITHER ends -/
def ERES (J : Nat → Int64) (rj : Nat → Nat → Int64) (rq : Nat → Nat → Option Nat) (mj : Nat → Nat → Int64) (mq : Nat → Nat → Option Nat) (n : Nat) (T : Nat → Int32) (X : vM) (Y : Int32 × vM) (tm0 : Int) : Prop := ∃ (f : Int32) (I1 : Nat → Int32) (J1 : Nat → Int64) (r1 : Nat → Nat → Int32), Y = (f, I1, J1, r1, mj, mq) ∧ ((f ≠ 0 ∧ ∃ s : Nat, (I1 392).toInt = (s : Int) ∧ FIN J rj rq f s X) ∨ (f = 0 ∧ ∃ (p2 : Nat) (c2 v2 : Int32) (s2 e2 : Nat) (P2 : List Int32), TKC T n p2 c2 s2 e2 v2 ∧ RST n T c2 v2 s2 e2 P2 0 I1 J1 r1 ∧ ((c2 = 32 ∧ ∃ (If : Nat → Int32) (rf : Nat → Nat → Int32), X = (If, J, rf, rj, rq) ∧ If 129 = 0 ∧ (If 193).toInt = (n : Int) ∧ rf 192 = T ∧ (If 197).toInt = (e2 : Int)) ∨ (c2 ≠ 32 ∧ FIN J rj rq 1 s2 X)) ∧ tmM (I1 391).toInt (I1 393).toInt < tm0))
theorem ERES_w {n : Nat} {T : Nat → Int32} {X : vM} {Y : Int32 × vM} {t0 t1 : Int} (h : ERES J rj rq mj mq n T X Y t0) (ht : t0 ≤ t1) : ERES J rj rq mj mq n T X Y t1 := by
  obtain ⟨f, I1, J1, r1, e, h⟩ := h
  refine ⟨f, I1, J1, r1, e, ?_⟩
  rcases h with y | ⟨y, p2, c2, v2, s2, e2, P2, a1, a2, a3, a4⟩
  · exact Or.inl y
  · exact Or.inr ⟨y, p2, c2, v2, s2, e2, P2, a1, a2, a3, by omega⟩
theorem eith_L {n : Nat} {T : Nat → Int32} (h3 : n ≤ 300) (hb : ∀ j, j < n → 0 ≤ (T j).toInt) : ∀ (m N : Nat) (i : Int32) (I : Nat → Int32) (r : Nat → Nat → Int32) (x1 x2 : Int32) (I' : Nat → Int32) (J' : Nat → Int64) (r' : Nat → Nat → Int32) (P : List Int32) (p : Nat) (c v : Int32) (s e : Nat), (2 * tmM (I' 391).toInt (I' 393).toInt + 1).toNat < m → CST n p T (bB x1 x2) 0 0 0 I r → I 137 ≠ 0 → TKC T n p c s e v → RST n T c v s e P 0 I' J' r' → 0 ≤ i.toInt → i.toInt ≤ (p : Int) → (301 - i.toInt).toNat < N → ∀ d : Int32, d ≠ 0 → ERES J rj rq mj mq n T (g_X4_readEither_L34 J rj rq N d i I r) (g_X12_either_L6 mj mq m x1 x2 1 I' J' r') (tmM (I' 391).toInt (I' 393).toInt) := by
  intro m
  induction m with
  | zero => intro _ _ _ _ _ _ _ _ _ _ _ _ _ _ _ h; exact absurd h (Nat.not_lt_zero _)
  | succ m ih =>
    intro N i I r x1 x2 I' J' r' P p c v s e hm hC hI ht hR hi0 hip hN d hd
    have hok := bB_ok x1 x2
    have bl := okB_l hok
    obtain ⟨_, _, _, _, ob2, ob3, ob4⟩ := okB_p hok
    have hC0 : CST n p T (List.replicate 0 11 ++ bB x1 x2) (0 + 0) 0 0 I r := hC
    obtain ⟨f, I1, J1, r1, ee, hh⟩ := ask_sim (J := J) (rj := rj) (rq := rq) (mj := mj) (mq := mq) h3 hb hok (o0 := 0) (n - p + 1) N i 0 I r ((tmM (I' 391).toInt (I' 393).toInt).toNat + 1) I' J' r' P 0 p c v s e (Nat.lt_succ_self _) hC0 hI ht hR (by decide) (by decide) hi0 hip hN (Nat.lt_succ_self _) d hd
    have ea : g_X12_ask I' J' r' mj mq = (f, I1, J1, r1, mj, mq) := by
      rw [g_X12_ask_e]
      try simp only [↓ap1_n]
      exact ee
    rcases hh with ⟨y, s0, y1, y2⟩ | ⟨y, p2, c2, v2, s2, e2, N2, i2, I2, r2, Q, P2, w1, w2, w3, w4, w5, w6, w7, w8, w9, w10, w11⟩
    · rw [g_X12_either_L6_e]
      try simp only [↓ap1_n]
      rw [if_neg (show ¬ (1 : Int32) = 0 by decide), bn_n ea, if_neg y]
      exact ⟨f, I1, J1, r1, rfl, Or.inl ⟨y, s0, y1, y2⟩⟩
    · subst y
      rw [w1]
      have hle2 := TKC_le w3
      have p2n := w2.1.2.2.2.1
      have te : 0 ≤ tmM (I1 391).toInt (I1 393).toInt := tm_b (by have := w4.2.1.1; omega)
      cases N2 with
      | zero => exact absurd w10 (Nat.not_lt_zero _)
      | succ N2 =>
      obtain ⟨I3, ⟨g1, g2, g3⟩, hC3, hA3, _, hD3⟩ := CL_s (J := J) (rj := rj) (rq := rq) h3 w2 w3 (i := i2) (by omega) N2
      have hC3' := hC3
      obtain ⟨⟨z1, z2, z3, z4, z5, z6⟩, ⟨y1, y2⟩, u1, u2, u3⟩ := hC3'
      have lQ : (Q ++ bB x1 x2).length = Q.length + (bB x1 x2).length := List.length_append
      have nb : (I3 136).toInt ≤ 0 := by rw [u2]; decide
      have nm : I3 138 ≠ 0 := by rw [u3]; decide
      -- and, or: another ASK
      have more : ∀ (a ch nx1 nx2 : Int32) (R : List Int32) (I4 : Nat → Int32) (r4 : Nat → Nat → Int32), c2 ≠ 33 → allR a Q → popR a (bB x1 x2) = R → popN a (bB x1 x2) = 0 → R.length ≤ 2 → ch :: R = bB nx1 nx2 → (∀ f, f ≠ 398 → I4 f = I1 f) → (∀ q, q ≠ 384 → r4 q = r1 q) → ERES J rj rq mj mq n T (bnI (bnV (g_X4_settle a (va_up (va_up (va_up I3 137 0) 138 0) 137 1) J r2 rj rq) fun (I6 : Nat → Int32) (_ : Nat → Int64) (r6 : Nat → Nat → Int32) (_ : Nat → Nat → Int64) (_ : Nat → Nat → Option Nat) => bnV (g_X4_await ch I6 J r6 rj rq) fun (I7 : Nat → Int32) (_ : Nat → Int64) (r7 : Nat → Nat → Int32) (_ : Nat → Nat → Int64) (_ : Nat → Nat → Option Nat) => (((1 : Int32), I7, J, r7, rj, rq) : Int32 × vM)) fun (x : Int32) (I3 : Nat → Int32) (_ : Nat → Int64) (r3 : Nat → Nat → Int32) (_ : Nat → Nat → Int64) (_ : Nat → Nat → Option Nat) => g_X4_readEither_L34 J rj rq N2 x (i2 + Int32.ofInt 1) I3 r3) (bnV (g_X12_nextToken_x I4 J1 r4 mj mq) fun (I4 : Nat → Int32) (J4 : Nat → Int64) (_ : Nat → Nat → Int32) (_ : Nat → Nat → Int64) (_ : Nat → Nat → Option Nat) => g_X12_either_L6 mj mq m nx1 nx2 1 I4 J4 r4) (tmM (I' 391).toInt (I' 393).toInt) := fun a ch nx1 nx2 R I4 r4 h33 haR hpR hpN hR2 hnx fr1 fr2 => by
        have hR4 := RST_fr w4 fr1 fr2
        obtain ⟨c', s', e', v', ht'⟩ := TKC_ex T z4
        obtain ⟨I5, J5, f1, f2, f3⟩ := RST_n (mj := mj) (mq := mq) h3 hb hR4 hle2.2.2.1 ht'
        rw [bv_n f1]
        obtain ⟨n1, n2⟩ := tm_nx h3 hR4 h33 f2 ht'
        rw [fr1 391 (by decide), fr1 393 (by decide)] at n1
        obtain ⟨pa1, pa2⟩ := pop_all (a := a) (L := bB x1 x2) Q haR
        rw [hpR] at pa1
        rw [hpN, Nat.add_zero] at pa2
        obtain ⟨K, rk, e1, e2q, e3, e4, e5, e6⟩ := sa_v (J := J) (ri := r2) (rj := rj) (rq := rq) (a := a) (c := ch) (K := va_up (va_up (va_up I3 137 0) 138 0) 137 1) (w := (Q ++ bB x1 x2).length) (o := 0 + cntO Q) (by rw [va_up_ne _ _ (show (134 : Nat) ≠ 137 by decide), va_up_ne _ _ (show (134 : Nat) ≠ 138 by decide), va_up_ne _ _ (show (134 : Nat) ≠ 137 by decide)]; exact y1) (by omega) (by rw [va_up_ne _ _ (show (135 : Nat) ≠ 137 by decide), va_up_ne _ _ (show (135 : Nat) ≠ 138 by decide), va_up_ne _ _ (show (135 : Nat) ≠ 137 by decide)]; exact u1) (by rw [y2, pa2]; omega) (by omega)
        rw [y2, pa1] at e2q e3
        rw [y2, pa2] at e4
        rw [bn_n e1]
        have fr : ∀ f, f ≠ 132 → f ≠ 134 → f ≠ 135 → f ≠ 137 → f ≠ 138 → K f = I3 f := fun f h1 h2 h3 h4 h5 => by rw [e5 f h1 h2 h3, va_up_ne _ _ h4, va_up_ne _ _ h5, va_up_ne _ _ h4]
        have k137 : K 137 ≠ 0 := by rw [e5 137 (by decide) (by decide) (by decide), va_up_self]; decide
        have hC5 : CST n e2 T (ch :: R) 0 0 0 K rk := ⟨⟨by rw [fr 193 (by decide) (by decide) (by decide) (by decide) (by decide)]; exact z1, by rw [e6 192 (by decide) (by decide)]; exact z2, by rw [fr 197 (by decide) (by decide) (by decide) (by decide) (by decide)]; exact z3, z4, by rw [fr 129 (by decide) (by decide) (by decide) (by decide) (by decide)]; exact z5, by rw [fr 139 (by decide) (by decide) (by decide) (by decide) (by decide)]; exact z6⟩, ⟨e2q, e3⟩, by omega, by rw [fr 136 (by decide) (by decide) (by decide) (by decide) (by decide)]; exact u2, by rw [e5 138 (by decide) (by decide) (by decide), va_up_ne _ _ (show (138 : Nat) ≠ 137 by decide), va_up_self]⟩
        rw [hnx] at hC5
        have hs := no_33 w3 h33
        have hse := hle2.2.2.2.2 hs
        have i1 : (i2 + Int32.ofInt 1).toInt = i2.toInt + 1 := t1_inc (by omega) (by omega)
        exact ERES_w (ih N2 (i2 + Int32.ofInt 1) K rk nx1 nx2 I5 J5 r4 P2 e2 c' v' s' e' (by omega) hC5 k137 ht' f2 (by omega) (by omega) (by omega) 1 (by decide)) (by omega)
      by_cases c10 : c2 = 10
      · obtain ⟨I4, r4, e1, e2', e3⟩ := eith_a (m := m) (x1 := x1) (x2 := x2) ea w4.2.1.2.2 c10
        rw [e3, hD3, rb_and (by rw [g1]; exact c10) nb nm]
        have hR2 : (popR 2 (bB x1 x2)).length ≤ 2 := Nat.le_trans (popR_le _) bl
        exact more 2 10 1 x2 (popR 2 (bB x1 x2)) I4 r4 (by rw [c10]; decide) (allR_le (by decide) w5) rfl ob2 hR2 (bB_and x1 x2) e1 e2'
      by_cases c9 : c2 = 9
      · obtain ⟨I4, r4, e1, e2', e3⟩ := eith_o (m := m) (x1 := x1) (x2 := x2) ea w4.2.1.2.2 c9
        rw [e3, hD3, rb_or (by rw [g1]; exact c9) nb nm]
        exact more 1 9 0 1 [] I4 r4 (by rw [c9]; decide) (allR_le (by decide) w5) ob3 ob4 (by decide) bB_or e1 e2'
      obtain ⟨I4, r4, e1, e2', e3⟩ := eith_e (m := m) (x1 := x1) (x2 := x2) ea w4.2.1.2.2 c10 c9
      have hR4 := RST_fr w4 e1 e2'
      rw [e3, hD3]
      cases m with
      | zero => omega
      | succ m =>
      have le : g_X12_either_L6 mj mq (m + 1) 0 0 0 I4 J1 r4 = (0, I4, J1, r4, mj, mq) := by
        rw [g_X12_either_L6_e]
        try simp only [↓ap1_n]
        rw [if_pos trivial]
      rw [le]
      have tme : tmM (I4 391).toInt (I4 393).toInt < tmM (I' 391).toInt (I' 393).toInt := by rw [e1 391 (by decide), e1 393 (by decide)]; exact w11
      by_cases c32 : c2 = 32
      · obtain ⟨K, rk, k1, k2, k3⟩ := rb_end (J := J) (ri := r2) (rj := rj) (rq := rq) (I := I3) (by rw [g1]; exact c32) nb nm
        have k129 : K 129 = 0 := (k3 129 (by decide) (by decide) (by decide) (by decide) (by decide)).trans z5
        rw [bn_n k1, CL_139 k129 (by rw [k2]; decide)]
        have kf : FRG Prod.snd w_X4_readBehindOne (I3, J, r2, rj, rq) (g_X4_readBehindOne I3 J r2 rj rq) := g_X4_readBehindOne_f
        rw [k1] at kf
        have k192 : rk 192 = r2 192 := kf.2.2.1 192 (by decide)
        exact ⟨0, I4, J1, r4, rfl, Or.inr ⟨rfl, p2, c2, v2, s2, e2, P2, w3, hR4, Or.inl ⟨c32, K, rk, rfl, k129, by rw [k3 193 (by decide) (by decide) (by decide) (by decide) (by decide)]; exact z1, k192.trans z2, by rw [k3 197 (by decide) (by decide) (by decide) (by decide) (by decide)]; exact z3⟩, tme⟩⟩
      · obtain ⟨K, rk, k1, k2⟩ := rb_no (J := J) (ri := r2) (rj := rj) (rq := rq) (I := I3) z5 (by rw [g1]; exact w8) (Or.inr (Or.inr ⟨nb, nm, by rw [g1]; exact c9, by rw [g1]; exact c10, by rw [g1]; exact c32⟩))
        rw [bn_n k1]
        exact ⟨0, I4, J1, r4, rfl, Or.inr ⟨rfl, p2, c2, v2, s2, e2, P2, w3, hR4, Or.inr ⟨c32, FIN_f k2 g2 (by decide)⟩, tme⟩⟩
theorem eith_sim {n : Nat} {T : Nat → Int32} (h3 : n ≤ 300) (hb : ∀ j, j < n → 0 ≤ (T j).toInt) {I : Nat → Int32} {r : Nat → Nat → Int32} {p : Nat} (hn : (I 193).toInt = (n : Int)) (hT : r 192 = T) (hp : (I 197).toInt = (p : Int)) (hpn : p ≤ n) (h0 : I 129 = 0) {I' : Nat → Int32} {J' : Nat → Int64} {r' : Nat → Nat → Int32} {P : List Int32} {c v : Int32} {s e : Nat} (ht : TKC T n p c s e v) (hR : RST n T c v s e P 0 I' J' r') : ERES J rj rq mj mq n T (g_X4_readEither I J r rj rq) (g_X12_either I' J' r' mj mq) (tmM (I' 391).toInt (I' 393).toInt) := by
  rw [g_X4_readEither_e, g_X12_either_e]
  try simp only [↓ap1_n]
  have k0 : (0 : Int32).toInt = 0 := by decide
  have k1 : (1 : Int32).toInt = 1 := by decide
  have z : ∀ f, f ≠ 134 → f ≠ 135 → f ≠ 136 → f ≠ 137 → f ≠ 138 → f ≠ 139 → va_up (va_up (va_up (va_up (va_up (va_up I 134 0) 135 0) 136 0) 137 1) 138 0) 139 0 f = I f := fun f h1 h2 h3 h4 h5 h6 => by rw [va_up_ne _ _ h6, va_up_ne _ _ h5, va_up_ne _ _ h4, va_up_ne _ _ h3, va_up_ne _ _ h2, va_up_ne _ _ h1]
  have hC : CST n p T (bB 0 0) 0 0 0 (va_up (va_up (va_up (va_up (va_up (va_up I 134 0) 135 0) 136 0) 137 1) 138 0) 139 0) r := by
    have eb : bB 0 0 = [] := by unfold bB; rw [if_pos rfl, if_pos rfl]
    rw [eb]
    refine ⟨⟨by rw [z 193 (by decide) (by decide) (by decide) (by decide) (by decide) (by decide)]; exact hn, hT, by rw [z 197 (by decide) (by decide) (by decide) (by decide) (by decide) (by decide)]; exact hp, hpn, by rw [z 129 (by decide) (by decide) (by decide) (by decide) (by decide) (by decide)]; exact h0, va_up_self _ _ _⟩, ⟨?_, rfl⟩, ?_, ?_, ?_⟩
    · rw [va_up_ne _ _ (show (134 : Nat) ≠ 139 by decide), va_up_ne _ _ (show (134 : Nat) ≠ 138 by decide), va_up_ne _ _ (show (134 : Nat) ≠ 137 by decide), va_up_ne _ _ (show (134 : Nat) ≠ 136 by decide), va_up_ne _ _ (show (134 : Nat) ≠ 135 by decide), va_up_self]; exact k0
    · rw [va_up_ne _ _ (show (135 : Nat) ≠ 139 by decide), va_up_ne _ _ (show (135 : Nat) ≠ 138 by decide), va_up_ne _ _ (show (135 : Nat) ≠ 137 by decide), va_up_ne _ _ (show (135 : Nat) ≠ 136 by decide), va_up_self]; exact k0
    · rw [va_up_ne _ _ (show (136 : Nat) ≠ 139 by decide), va_up_ne _ _ (show (136 : Nat) ≠ 138 by decide), va_up_ne _ _ (show (136 : Nat) ≠ 137 by decide), va_up_self]; exact k0
    · rw [va_up_ne _ _ (show (138 : Nat) ≠ 139 by decide), va_up_self]
  have h137 : va_up (va_up (va_up (va_up (va_up (va_up I 134 0) 135 0) 136 0) 137 1) 138 0) 139 0 137 ≠ 0 := by
    rw [va_up_ne _ _ (show (137 : Nat) ≠ 139 by decide), va_up_ne _ _ (show (137 : Nat) ≠ 138 by decide), va_up_self]; decide
  exact eith_L h3 hb _ _ 0 _ r 0 0 I' J' r' P p c v s e (by rw [k1]; omega) hC h137 ht hR (by rw [k0]; omega) (by rw [k0]; omega) (by rw [k0]; omega) 1 (by decide)
end PR10
/-! ===== pure: a number, KEYS, both sides ===== -/
section PR11
variable {J : Nat → Int64} {rj : Nat → Nat → Int64} {rq : Nat → Nat → Option Nat} {mj : Nat → Nat → Int64} {mq : Nat → Nat → Option Nat}
theorem exp_v {I : Nat → Int32} {r : Nat → Nat → Int32} (h0 : I 129 = 0) : (I 194 = 32 ∧ g_X4_expectSemicolon I J r rj rq = (I, J, r, rj, rq)) ∨ (I 194 ≠ 32 ∧ ∃ K : Nat → Int32, g_X4_expectSemicolon I J r rj rq = (K, J, r, rj, rq) ∧ K 129 = 1 ∧ K 130 = I 195) := by
  rw [g_X4_expectSemicolon_e]
  try simp only [↓ap1_n]
  by_cases q : I 194 = 32
  · rw [if_pos q]; exact Or.inl ⟨q, rfl⟩
  · rw [if_neg q, bv_n (refuse_c h0)]
    exact Or.inr ⟨q, _, rfl, refuse_1.1, refuse_1.2⟩
theorem exp_f {I : Nat → Int32} {r : Nat → Nat → Int32} (h0 : I 129 ≠ 0) : g_X4_expectSemicolon I J r rj rq = (I, J, r, rj, rq) := by
  rw [g_X4_expectSemicolon_e]
  try simp only [↓ap1_n]
  by_cases q : I 194 = 32
  · rw [if_pos q]
  · rw [if_neg q, g_X4_refuse_e]
    try simp only [↓ap1_n]
    rw [if_neg h0, bv_n rfl]
theorem nv_le {v w a : Int32} (h : nvE v w) (ha : a.toInt ≤ 9999) : v ≤ a ↔ w ≤ a := by
  rw [Int32.le_iff_toInt_le, Int32.le_iff_toInt_le]
  rcases h with ⟨h1, h2, h3⟩ | ⟨h1, h2, h3⟩
  · rw [h3]
  · omega
/-- the state of the class ahead of a TOKEN -/
def PST (n p : Nat) (T : Nat → Int32) (I : Nat → Int32) (r : Nat → Nat → Int32) : Prop := (I 193).toInt = (n : Int) ∧ r 192 = T ∧ (I 197).toInt = (p : Int) ∧ p ≤ n ∧ I 129 = 0
/-- the class takes the next TOKEN -/
theorem PST_n {n p : Nat} {T : Nat → Int32} (h3 : n ≤ 300) {I : Nat → Int32} {r : Nat → Nat → Int32} (h : PST n p T I r) {c v : Int32} {s e : Nat} (ht : TKC T n p c s e v) : ∃ I2 : Nat → Int32, g_X6_advance I J r rj rq = (I2, J, r, rj, rq) ∧ I2 194 = c ∧ (I2 195).toInt = (s : Int) ∧ (c = 18 → I2 196 = v) ∧ PST n e T I2 r ∧ ∀ f, f ≠ 194 → f ≠ 195 → f ≠ 196 → f ≠ 197 → I2 f = I f := by
  obtain ⟨a1, a2, a3, a4, a5⟩ := h
  obtain ⟨I2, i1, i2, i3, i4, i5, i6⟩ := adv_v (J := J) (ri := r) (rj := rj) (rq := rq) h3 a1 a3 a4 (by rw [a2]; exact ht)
  exact ⟨I2, i1, i2, i3, i5, ⟨by rw [i6 193 (by decide) (by decide) (by decide) (by decide)]; exact a1, a2, i4, (TKC_le ht).2.2.1, by rw [i6 129 (by decide) (by decide) (by decide) (by decide)]; exact a5⟩, i6⟩
theorem PST_fr {n p : Nat} {T : Nat → Int32} {I I' : Nat → Int32} {r r' : Nat → Nat → Int32} (h : PST n p T I r) (hI : ∀ f, f ≠ 132 → I' f = I f) (hr : ∀ t, t ≠ 259 → r' t = r t) : PST n p T I' r' := by
  obtain ⟨a1, a2, a3, a4, a5⟩ := h
  exact ⟨by rw [hI 193 (by decide)]; exact a1, by rw [hr 192 (by decide)]; exact a2, by rw [hI 197 (by decide)]; exact a3, a4, by rw [hI 129 (by decide)]; exact a5⟩
/-- ; is looked for: both sides -/
theorem semi_r {n : Nat} {T : Nat → Int32} {p2 : Nat} {c2 v2 : Int32} {s2 e2 : Nat} {P2 : List Int32} {I2 : Nat → Int32} {r2 : Nat → Nat → Int32} {I1 : Nat → Int32} {J1 : Nat → Int64} {r1 : Nat → Nat → Int32} {tm0 : Int} (hp : PST n e2 T I2 r2) (g1 : I2 194 = c2) (g2 : (I2 195).toInt = (s2 : Int)) (ht : TKC T n p2 c2 s2 e2 v2) (hR : RST n T c2 v2 s2 e2 P2 0 I1 J1 r1) (htm : tmM (I1 391).toInt (I1 393).toInt < tm0) : ERES J rj rq mj mq n T (g_X4_expectSemicolon I2 J r2 rj rq) (0, I1, J1, r1, mj, mq) tm0 := by
  obtain ⟨a1, a2, a3, a4, a5⟩ := hp
  refine ⟨0, I1, J1, r1, rfl, Or.inr ⟨rfl, p2, c2, v2, s2, e2, P2, ht, hR, ?_, htm⟩⟩
  rcases exp_v (J := J) (r := r2) (rj := rj) (rq := rq) a5 with ⟨q, e⟩ | ⟨q, K, e, k1, k2⟩
  · exact Or.inl ⟨g1.symm.trans q, I2, r2, e, a5, a1, a2, a3⟩
  · exact Or.inr ⟨fun y => q (g1.trans y), K, r2, e, k1, by rw [k2]; exact g2⟩
theorem num_sim {n : Nat} {T : Nat → Int32} (h3 : n ≤ 300) (hb : ∀ j, j < n → 0 ≤ (T j).toInt) {a x : Int32} (ha : a.toInt ≤ 9999) {p : Nat} {I : Nat → Int32} {r : Nat → Nat → Int32} (hp : PST n p T I r) {c v : Int32} {s e : Nat} (ht : TKC T n p c s e v) {I' : Nat → Int32} {J' : Nat → Int64} {r' : Nat → Nat → Int32} {P : List Int32} (hR : RST n T c v s e P 0 I' J' r') : ERES J rj rq mj mq n T (g_X4_readNumber a I J r rj rq) (g_X12_take a x I' J' r' mj mq) (tmM (I' 391).toInt (I' 393).toInt) := by
  obtain ⟨I2, i1, i2, i3, i4, hp2, _⟩ := PST_n (J := J) (rj := rj) (rq := rq) h3 hp ht
  have hR' := hR
  obtain ⟨⟨a1, a2⟩, ⟨b1, b2, b3⟩, _, _⟩ := hR'
  obtain ⟨t0, t18, t33, s19, s20, s21, s22, s23, s24, s25, s26, s27, s28, s29, s30, s31, s32, t2, tv, tw⟩ := b3
  rw [g_X4_readNumber_e, g_X12_take_e]
  try simp only [↓ap1_n]
  rw [bv_n i1]
  have rf : ∀ k : Int32, k ≠ 0 → FIN J rj rq k s (va_up (va_up I2 129 k) 130 (I2 195), J, r, rj, rq) := fun k hk => ⟨_, r, rfl, refuse_1.1, by rw [refuse_1.2]; exact i3⟩
  by_cases q : c = 18
  · rw [if_pos (i2.trans q), if_pos (t18.mpr q), i4 q]
    by_cases hv : v ≤ a
    · rw [if_pos hv, if_pos ((nv_le (tv q) ha).mp hv)]
      obtain ⟨I3, r3, e1, e2, e3⟩ := emit_c (J := J) (ri := r) (rj := rj) (rq := rq) (a := v) (I := I2)
      rw [bv_n e1]
      have hp3 := PST_fr hp2 e2 e3
      obtain ⟨c2, s2, e2', v2, ht2⟩ := TKC_ex T hp2.2.2.2.1
      obtain ⟨I4, j1, j2, j3, _, hp4, _⟩ := PST_n (J := J) (rj := rj) (rq := rq) h3 hp3 ht2
      rw [bv_n j1]
      have hR2 : RST n T c v s e P 0 I' J' (va_up r' 384 (upd (r' 384) x.toNatClampNeg (I' 394))) := RST_fr hR (fun _ _ => rfl) (fun t h => va_up_ne _ _ h)
      obtain ⟨I5, J5, f1, f2, _⟩ := RST_n (mj := mj) (mq := mq) h3 hb hR2 (TKC_le ht).2.2.1 ht2
      rw [bv_n f1]
      obtain ⟨n1, _⟩ := tm_nx h3 hR2 (by rw [q]; decide) f2 ht2
      have S := semi_r (J := J) (rj := rj) (rq := rq) (mj := mj) (mq := mq) hp4 j2 j3 ht2 f2 n1
      rcases exp_v (J := J) (r := r3) (rj := rj) (rq := rq) hp4.2.2.2.2 with ⟨_, ex⟩ | ⟨_, K, ex, _, _⟩
      · rw [bv_n ex]; rw [ex] at S; exact S
      · rw [bv_n ex]; rw [ex] at S; exact S
    · rw [if_neg hv, if_neg (fun y => hv ((nv_le (tv q) ha).mpr y)), bv_n (refuse_c hp2.2.2.2.2)]
      exact ⟨2, I', J', r', rfl, Or.inl ⟨by decide, s, b2, rf 2 (by decide)⟩⟩
  · rw [if_neg (fun y => q (i2.symm.trans y)), if_neg (fun y => q (t18.mp y)), bv_n (refuse_c hp2.2.2.2.2)]
    exact ⟨1, I', J', r', rfl, Or.inl ⟨by decide, s, b2, rf 1 (by decide)⟩⟩
/-! KEYS -/
theorem isN_0 {c : Int32} (h : ¬ (12 ≤ c.toInt ∧ c.toInt ≤ 17)) : g_X4_isName c = 0 := by
  have k1 : (12 : Int32).toInt = 12 := by decide
  have k2 : (17 : Int32).toInt = 17 := by decide
  rw [g_X4_isName_e]
  by_cases a : c < 12
  · rw [if_pos a]
  · have a1 := Int32.le_iff_toInt_le.mp (Int32.not_lt.mp a)
    rw [if_neg a, if_pos (show 17 < c from Int32.lt_iff_toInt_lt.mpr (by omega))]
theorem isN_1 {c : Int32} (h : 12 ≤ c.toInt ∧ c.toInt ≤ 17) : g_X4_isName c = 1 := by
  have k1 : (12 : Int32).toInt = 12 := by decide
  have k2 : (17 : Int32).toInt = 17 := by decide
  rw [g_X4_isName_e, if_neg (show ¬ c < 12 from fun q => by have q1 := Int32.lt_iff_toInt_lt.mp q; omega), if_neg (show ¬ 17 < c from fun q => by have q1 := Int32.lt_iff_toInt_lt.mp q; omega)]
/-- how the class reads one key -/
theorem key_v {x : Int32} {k : Nat} (hx : x.toInt = (k : Int)) {n p : Nat} {T : Nat → Int32} (h3 : n ≤ 300) {I : Nat → Int32} {r : Nat → Nat → Int32} (hp : PST n p T I r) {c : Int32} {s : Nat} (g1 : I 194 = c) (g2 : (I 195).toInt = (s : Int)) {c2 v2 : Int32} {s2 e2 : Nat} (ht : TKC T n p c2 s2 e2 v2) : ∃ (K : Nat → Int32) (rk : Nat → Nat → Int32), g_X4_readKey x I J r rj rq = (K, J, rk, rj, rq) ∧ ((c = 26 ∧ k < 4 ∧ (12 ≤ c2.toInt ∧ c2.toInt ≤ 17) ∧ PST n e2 T K rk) ∨ (c = 26 ∧ k < 4 ∧ ¬ (12 ≤ c2.toInt ∧ c2.toInt ≤ 17) ∧ K 129 = 1 ∧ (K 130).toInt = (s2 : Int)) ∨ (c = 26 ∧ ¬ k < 4 ∧ K 129 = 5 ∧ (K 130).toInt = (s : Int)) ∨ (c ≠ 26 ∧ ¬ (12 ≤ c.toInt ∧ c.toInt ≤ 17) ∧ K 129 = 1 ∧ (K 130).toInt = (s : Int)) ∨ (c ≠ 26 ∧ (12 ≤ c.toInt ∧ c.toInt ≤ 17) ∧ k < 4 ∧ PST n p T K rk) ∨ (c ≠ 26 ∧ (12 ≤ c.toInt ∧ c.toInt ≤ 17) ∧ ¬ k < 4 ∧ K 129 = 5 ∧ (K 130).toInt = (s : Int))) := by
  have k4 : (4 : Int32).toInt = 4 := by decide
  have lt : x < 4 ↔ k < 4 := by rw [Int32.lt_iff_toInt_lt, k4]; omega
  rw [g_X4_readKey_e]
  try simp only [↓ap1_n]
  -- a fault, then what is written
  have fl : ∀ (a b : Int32) (I : Nat → Int32) (s : Nat), (I 195).toInt = (s : Int) → ∃ (K : Nat → Int32) (rk : Nat → Nat → Int32), g_X4_emit b (va_up (va_up I 129 a) 130 (I 195)) J r rj rq = (K, J, rk, rj, rq) ∧ K 129 = a ∧ (K 130).toInt = (s : Int) := fun a b I s hs => by
    obtain ⟨K, rk, e1, e2, e3⟩ := emit_c (J := J) (ri := r) (rj := rj) (rq := rq) (a := b) (I := va_up (va_up I 129 a) 130 (I 195))
    exact ⟨K, rk, e1, by rw [e2 129 (by decide)]; exact refuse_1.1, by rw [e2 130 (by decide), refuse_1.2]; exact hs⟩
  by_cases q : c = 26
  · rw [if_pos (g1.trans q)]
    by_cases hk : k < 4
    · rw [if_pos (lt.mpr hk)]
      obtain ⟨I2, i1, i2, i3, i4, hp2, _⟩ := PST_n (J := J) (rj := rj) (rq := rq) h3 hp ht
      rw [bv_n i1]
      by_cases hn : 12 ≤ c2.toInt ∧ c2.toInt ≤ 17
      · rw [i2, isN_1 hn, if_neg (show ¬ (1 : Int32) = 0 by decide)]
        obtain ⟨K, rk, e1, e2, e3⟩ := emit_c (J := J) (ri := r) (rj := rj) (rq := rq) (a := -c2) (I := I2)
        rw [bv_n e1]
        exact ⟨K, rk, rfl, Or.inl ⟨q, hk, hn, PST_fr hp2 e2 e3⟩⟩
      · rw [i2, isN_0 hn, if_pos (show (0 : Int32) = 0 from rfl), bv_n (refuse_c hp2.2.2.2.2)]
        obtain ⟨K, rk, e1, e2, e3⟩ := fl 1 (-(va_up (va_up I2 129 1) 130 (I2 195) 194)) I2 s2 i3
        rw [bv_n e1]
        exact ⟨K, rk, rfl, Or.inr (Or.inl ⟨q, hk, hn, e2, e3⟩)⟩
    · rw [if_neg (fun y => hk (lt.mp y)), bv_n (refuse_c hp.2.2.2.2)]
      obtain ⟨K, rk, e1, e2, e3⟩ := fl 5 (-(va_up (va_up I 129 5) 130 (I 195) 194)) I s g2
      rw [bv_n e1]
      exact ⟨K, rk, rfl, Or.inr (Or.inr (Or.inl ⟨q, hk, e2, e3⟩))⟩
  · rw [if_neg (fun y => q (g1.symm.trans y)), g1]
    by_cases hn : 12 ≤ c.toInt ∧ c.toInt ≤ 17
    · rw [isN_1 hn, if_neg (show ¬ (1 : Int32) = 0 by decide)]
      by_cases hk : k < 4
      · rw [if_pos (lt.mpr hk)]
        obtain ⟨K, rk, e1, e2, e3⟩ := emit_c (J := J) (ri := r) (rj := rj) (rq := rq) (a := c) (I := I)
        rw [bv_n e1]
        exact ⟨K, rk, rfl, Or.inr (Or.inr (Or.inr (Or.inr (Or.inl ⟨q, hn, hk, PST_fr hp e2 e3⟩))))⟩
      · rw [if_neg (fun y => hk (lt.mp y)), bv_n (refuse_c hp.2.2.2.2)]
        obtain ⟨K, rk, e1, e2, e3⟩ := fl 5 (va_up (va_up I 129 5) 130 (I 195) 194) I s g2
        rw [bv_n e1]
        exact ⟨K, rk, rfl, Or.inr (Or.inr (Or.inr (Or.inr (Or.inr ⟨q, hn, hk, e2, e3⟩))))⟩
    · rw [isN_0 hn, if_pos (show (0 : Int32) = 0 from rfl), bv_n (refuse_c hp.2.2.2.2)]
      obtain ⟨K, rk, e1, e2, e3⟩ := fl 1 (va_up (va_up I 129 1) 130 (I 195) 194) I s g2
      rw [bv_n e1]
      exact ⟨K, rk, rfl, Or.inr (Or.inr (Or.inr (Or.inl ⟨q, hn, e2, e3⟩)))⟩
/-- behind a fault the class reads no further key -/
theorem KL_f {m : Nat} {x d : Int32} {I : Nat → Int32} {r : Nat → Nat → Int32} (h : I 129 ≠ 0) : g_X4_readKeys_L4 J rj rq m x d I r = (I, J, r, rj, rq) := by
  cases m with
  | zero => rfl
  | succ m =>
    rw [g_X4_readKeys_L4_e]
    try simp only [↓ap1_n]
    by_cases a : d = 0
    · rw [if_pos a, bv_n (exp_f h)]
    · rw [if_neg a]
      by_cases b : 4 < x
      · rw [if_pos b, bv_n (exp_f h)]
      · rw [if_neg b, if_neg h, bv_n (exp_f h)]
theorem cnt_up {a0 val : Int32} {A k : Nat} (hA : a0.toInt = (A : Int)) (hA2 : A ≤ 100000) {r : Nat → Nat → Int32} (hk : (r 384 (a0 + 4).toNatClampNeg).toInt = (k : Int)) (k4 : k ≤ 4) : (va_up (va_up r 384 (upd (r 384) (a0 + 5 + r 384 (a0 + 4).toNatClampNeg).toNatClampNeg val)) 384 (upd (va_up r 384 (upd (r 384) (a0 + 5 + r 384 (a0 + 4).toNatClampNeg).toNatClampNeg val) 384) (a0 + 4).toNatClampNeg (va_up r 384 (upd (r 384) (a0 + 5 + r 384 (a0 + 4).toNatClampNeg).toNatClampNeg val) 384 (a0 + 4).toNatClampNeg + 1)) 384 (a0 + 4).toNatClampNeg).toInt = ((k + 1 : Nat) : Int) := by
  have e4 : (a0 + 4).toInt = ((A + 4 : Nat) : Int) := by
    have := i_add hA (show (4 : Int32).toInt = 4 by decide) (by omega) (by omega)
    omega
  have e5 : (a0 + 5).toInt = ((A + 5 : Nat) : Int) := by
    have := i_add hA (show (5 : Int32).toInt = 5 by decide) (by omega) (by omega)
    omega
  have e6 : (a0 + 5 + r 384 (a0 + 4).toNatClampNeg).toInt = ((A + 5 + k : Nat) : Int) := by
    have := i_add e5 hk (by omega) (by omega)
    omega
  simp only [va_up_self, upd_s]
  rw [at_n e6, upd_n (r 384) val (show (a0 + 4).toNatClampNeg ≠ A + 5 + k by rw [at_n e4]; omega)]
  exact upN hk (by omega)
theorem keys_L {n : Nat} {T : Nat → Int32} (h3 : n ≤ 300) (hb : ∀ j, j < n → 0 ≤ (T j).toInt) {a0 : Int32} {A : Nat} (hA : a0.toInt = (A : Int)) (hA2 : A ≤ 100000) : ∀ (m mm : Nat) (x : Int32) (k : Nat) (I : Nat → Int32) (r : Nat → Nat → Int32) (I' : Nat → Int32) (J' : Nat → Int64) (r' : Nat → Nat → Int32) (P : List Int32) (p : Nat) (c v : Int32) (s e : Nat), x.toInt = (k : Int) → k ≤ 4 → 5 - k < m → (tmM (I' 391).toInt (I' 393).toInt).toNat < mm → PST n p T I r → TKC T n p c s e v → RST n T c v s e P 0 I' J' r' → (r' 384 (a0 + 4).toNatClampNeg).toInt = (k : Int) → ERES J rj rq mj mq n T (g_X4_readKeys_L4 J rj rq m x 1 I r) (g_X12_keys_L11 a0 mj mq mm 1 I' J' r') (tmM (I' 391).toInt (I' 393).toInt) := by
  intro m
  induction m with
  | zero => intro _ _ _ _ _ _ _ _ _ _ _ _ _ _ _ _ h; exact absurd h (Nat.not_lt_zero _)
  | succ m ih =>
    intro mm x k I r I' J' r' P p c v s e hx hk hm hmm hp ht hR hc
    cases mm with
    | zero => exact absurd hmm (Nat.not_lt_zero _)
    | succ mm =>
    have hle := TKC_le ht
    obtain ⟨I2, i1, i2, i3, i4, hp2, _⟩ := PST_n (J := J) (rj := rj) (rq := rq) h3 hp ht
    obtain ⟨c2, s2, e2, v2, ht2⟩ := TKC_ex T hp2.2.2.2.1
    obtain ⟨K, rk, kk, hK⟩ := key_v (J := J) (rj := rj) (rq := rq) hx h3 hp2 i2 i3 ht2
    have k4 : (4 : Int32).toInt = ((4 : Nat) : Int) := by decide
    rw [g_X4_readKeys_L4_e, g_X12_keys_L11_e]
    try simp only [↓ap1_n]
    rw [if_neg (show ¬ (1 : Int32) = 0 by decide), if_neg (show ¬ (1 : Int32) = 0 by decide), if_neg (show ¬ (4 : Int32) < x from fun y => by have y1 := Int32.lt_iff_toInt_lt.mp y; omega), if_pos hp.2.2.2.2, bv_n i1, bv_n kk]
    have hR' := hR
    obtain ⟨⟨a1, a2⟩, ⟨b1, b2, b3⟩, _, _⟩ := hR'
    have b3' := b3
    obtain ⟨t0, t18, t33, s19, s20, s21, s22, s23, s24, s25, s26, s27, s28, s29, s30, s31, s32, t2, tv, tw⟩ := b3'
    -- the class at its end
    have clf : K 129 ≠ 0 → (if K 129 = 0 then bnV (g_X6_advance K J rk rj rq) fun (I6 : Nat → Int32) (_ : Nat → Int64) (_ : Nat → Nat → Int32) (_ : Nat → Nat → Int64) (_ : Nat → Nat → Option Nat) => (if I6 194 = 31 then g_X4_readKeys_L4 J rj rq m (x + Int32.ofInt 1) 1 I6 rk else g_X4_readKeys_L4 J rj rq m (x + Int32.ofInt 1) 0 I6 rk) else (if K 194 = 31 then g_X4_readKeys_L4 J rj rq m (x + Int32.ofInt 1) 1 K rk else g_X4_readKeys_L4 J rj rq m (x + Int32.ofInt 1) 0 K rk)) = (K, J, rk, rj, rq) := fun h => by
      rw [if_neg h]
      by_cases y : K 194 = 31
      · rw [if_pos y]; exact KL_f h
      · rw [if_neg y]; exact KL_f h
    -- behind a key
    have tail : ∀ (e3 : Nat) (c3 v3 : Int32) (s3 p3 : Nat) (I3 : Nat → Int32) (J3 : Nat → Int64) (r3 : Nat → Nat → Int32), PST n e3 T K rk → c3 ≠ 33 → TKC T n p3 c3 s3 e3 v3 → RST n T c3 v3 s3 e3 P 0 I3 J3 r3 → (r3 384 (a0 + 4).toNatClampNeg).toInt = ((k + 1 : Nat) : Int) → k < 4 → tmM (I3 391).toInt (I3 393).toInt ≤ tmM (I' 391).toInt (I' 393).toInt → ERES J rj rq mj mq n T (if K 129 = 0 then bnV (g_X6_advance K J rk rj rq) fun (I6 : Nat → Int32) (_ : Nat → Int64) (_ : Nat → Nat → Int32) (_ : Nat → Nat → Int64) (_ : Nat → Nat → Option Nat) => (if I6 194 = 31 then g_X4_readKeys_L4 J rj rq m (x + Int32.ofInt 1) 1 I6 rk else g_X4_readKeys_L4 J rj rq m (x + Int32.ofInt 1) 0 I6 rk) else (if K 194 = 31 then g_X4_readKeys_L4 J rj rq m (x + Int32.ofInt 1) 1 K rk else g_X4_readKeys_L4 J rj rq m (x + Int32.ofInt 1) 0 K rk)) (bnV (g_X12_nextToken_x I3 J3 r3 mj mq) fun (I4 : Nat → Int32) (J4 : Nat → Int64) (_ : Nat → Nat → Int32) (_ : Nat → Nat → Int64) (_ : Nat → Nat → Option Nat) => (if I4 393 = 44 then bnV (g_X12_nextToken_x I4 J4 r3 mj mq) fun (I5 : Nat → Int32) (J5 : Nat → Int64) (_ : Nat → Nat → Int32) (_ : Nat → Nat → Int64) (_ : Nat → Nat → Option Nat) => g_X12_keys_L11 a0 mj mq mm 1 I5 J5 r3 else g_X12_keys_L11 a0 mj mq mm 0 I4 J4 r3)) (tmM (I' 391).toInt (I' 393).toInt) := fun e3 c3 v3 s3 p3 I3 J3 r3 hpk h33 ht3 hR3 hc3 hk4 htm => by
      obtain ⟨c4, s4, e4, v4, ht4⟩ := TKC_ex T hpk.2.2.2.1
      obtain ⟨I6, j1, j2, j3, _, hp6, _⟩ := PST_n (J := J) (rj := rj) (rq := rq) h3 hpk ht4
      obtain ⟨I4, J4, f1, f2, f3⟩ := RST_n (mj := mj) (mq := mq) h3 hb hR3 (TKC_le ht3).2.2.1 ht4
      rw [if_pos hpk.2.2.2.2, bv_n j1, bv_n f1]
      obtain ⟨n1, n2⟩ := tm_nx h3 hR3 h33 f2 ht4
      have f2' := f2
      obtain ⟨_, ⟨_, _, u3⟩, _, _⟩ := f2'
      obtain ⟨_, _, _, _, _, _, _, _, _, _, _, _, _, _, _, v31, _, _, _, _⟩ := u3
      by_cases q : c4 = 31
      · rw [if_pos (j2.trans q), if_pos (v31.mpr q)]
        obtain ⟨c5, s5, e5, v5, ht5⟩ := TKC_ex T hp6.2.2.2.1
        obtain ⟨I5, J5, g1, g2, g3⟩ := RST_n (mj := mj) (mq := mq) h3 hb f2 (TKC_le ht4).2.2.1 ht5
        rw [bv_n g1]
        obtain ⟨n3, n4⟩ := tm_nx h3 f2 (by rw [q]; decide) g2 ht5
        exact ERES_w (ih mm (x + Int32.ofInt 1) (k + 1) I6 rk I5 J5 r3 P e4 c5 v5 s5 e5 (up_i hx (by omega)) (by omega) (by omega) (by omega) hp6 ht5 g2 hc3) (by omega)
      · rw [if_neg (fun y => q (j2.symm.trans y)), if_neg (fun y => q (v31.mp y))]
        cases m with
        | zero => omega
        | succ m =>
        cases mm with
        | zero => omega
        | succ mm =>
        rw [g_X4_readKeys_L4_e, g_X12_keys_L11_e]
        try simp only [↓ap1_n]
        rw [if_pos trivial, if_pos trivial]
        have S := semi_r (J := J) (rj := rj) (rq := rq) (mj := mj) (mq := mq) hp6 j2 j3 ht4 f2 (tm0 := tmM (I' 391).toInt (I' 393).toInt) (by omega)
        rcases exp_v (J := J) (r := rk) (rj := rj) (rq := rq) hp6.2.2.2.2 with ⟨_, ex⟩ | ⟨_, K6, ex, _, _⟩
        · rw [bv_n ex]; rw [ex] at S; exact S
        · rw [bv_n ex]; rw [ex] at S; exact S
    have q4 : r' 384 (a0 + 4).toNatClampNeg = 4 ↔ k = 4 := eq_n hc k4
    by_cases c26 : c = 26
    · rw [if_pos (s26.mpr c26)]
      have n33 : c ≠ 33 := by rw [c26]; decide
      rcases hK with ⟨_, y2, y3, y4⟩ | ⟨_, y2, y3, y4, y5⟩ | ⟨_, y2, y4, y5⟩ | ⟨y1, _⟩ | ⟨y1, _⟩ | ⟨y1, _⟩
      · rw [if_neg (show ¬ r' 384 (a0 + 4).toNatClampNeg = 4 from fun z => by have := q4.mp z; omega)]
        obtain ⟨I3, J3, f1, f2, f3⟩ := RST_n (mj := mj) (mq := mq) h3 hb hR hle.2.2.1 ht2
        rw [bv_n f1]
        obtain ⟨n1, n2⟩ := tm_nx h3 hR n33 f2 ht2
        have f2' := f2
        obtain ⟨_, ⟨_, _, u3⟩, _, _⟩ := f2'
        rw [bn_n (name_d u3), if_pos (show (0 : Int32) ≤ nmC c2 from Int32.not_lt.mp (nmC_ge y3))]
        rw [bn_n (name_d u3)]
        exact tail e2 c2 v2 s2 e I3 J3 _ y4 (fun z => by rw [z] at y3; exact absurd y3.2 (by decide)) ht2 (RST_fr f2 (fun _ _ => rfl) (fun t h => by rw [va_up_ne _ _ h, va_up_ne _ _ h])) (cnt_up hA hA2 hc hk) y2 (by omega)
      · rw [if_neg (show ¬ r' 384 (a0 + 4).toNatClampNeg = 4 from fun z => by have := q4.mp z; omega)]
        obtain ⟨I3, J3, f1, f2, f3⟩ := RST_n (mj := mj) (mq := mq) h3 hb hR hle.2.2.1 ht2
        rw [bv_n f1]
        have f2' := f2
        obtain ⟨_, ⟨_, u2, u3⟩, _, _⟩ := f2'
        rw [bn_n (name_d u3), if_neg (show ¬ (0 : Int32) ≤ nmC c2 from Int32.not_le.mpr (nmC_lt y3)), clf (by rw [y4]; decide)]
        exact ⟨1, I3, J3, r', rfl, Or.inl ⟨by decide, s2, u2, K, rk, rfl, y4, y5⟩⟩
      · rw [if_pos (q4.mpr (by omega)), clf (by rw [y4]; decide)]
        exact ⟨5, I', J', r', rfl, Or.inl ⟨by decide, s, b2, K, rk, rfl, y4, y5⟩⟩
      · exact absurd c26 y1
      · exact absurd c26 y1
      · exact absurd c26 y1
    · rw [if_neg (fun z => c26 (s26.mp z)), bn_n (name_d b3)]
      rcases hK with ⟨y1, _⟩ | ⟨y1, _⟩ | ⟨y1, _⟩ | ⟨_, y2, y4, y5⟩ | ⟨_, y2, y3, y4⟩ | ⟨_, y2, y3, y4, y5⟩
      · exact absurd y1 c26
      · exact absurd y1 c26
      · exact absurd y1 c26
      · rw [if_pos (nmC_lt y2), bn_n (name_d b3), if_neg (show ¬ (0 : Int32) ≤ nmC c from Int32.not_le.mpr (nmC_lt y2)), clf (by rw [y4]; decide)]
        exact ⟨1, I', J', r', rfl, Or.inl ⟨by decide, s, b2, K, rk, rfl, y4, y5⟩⟩
      · rw [if_neg (nmC_ge y2), if_neg (show ¬ r' 384 (a0 + 4).toNatClampNeg = 4 from fun z => by have := q4.mp z; omega), bn_n (name_d b3), if_pos (show (0 : Int32) ≤ nmC c from Int32.not_lt.mp (nmC_ge y2))]
        rw [bn_n (name_d b3)]
        exact tail e c v s p I' J' _ y4 (fun z => by rw [z] at y2; exact absurd y2.2 (by decide)) ht (RST_fr hR (fun _ _ => rfl) (fun t h => by rw [va_up_ne _ _ h, va_up_ne _ _ h])) (cnt_up hA hA2 hc hk) y3 (by omega)
      · rw [if_neg (nmC_ge y2), if_pos (q4.mpr (by omega)), clf (by rw [y4]; decide)]
        exact ⟨5, I', J', r', rfl, Or.inl ⟨by decide, s, b2, K, rk, rfl, y4, y5⟩⟩
theorem keys_sim {n : Nat} {T : Nat → Int32} (h3 : n ≤ 300) (hb : ∀ j, j < n → 0 ≤ (T j).toInt) {a0 : Int32} {A : Nat} (hA : a0.toInt = (A : Int)) (hA2 : A ≤ 100000) {p : Nat} {I : Nat → Int32} {r : Nat → Nat → Int32} (hp : PST n p T I r) {c v : Int32} {s e : Nat} (ht : TKC T n p c s e v) {I' : Nat → Int32} {J' : Nat → Int64} {r' : Nat → Nat → Int32} {P : List Int32} (hR : RST n T c v s e P 0 I' J' r') : ERES J rj rq mj mq n T (g_X4_readKeys I J r rj rq) (g_X12_keys a0 I' J' r' mj mq) (tmM (I' 391).toInt (I' 393).toInt) := by
  rw [g_X4_readKeys_e, g_X12_keys_e]
  try simp only [↓ap1_n]
  have k0 : (0 : Int32).toInt = 0 := by decide
  exact keys_L h3 hb hA hA2 _ _ 0 0 I r I' J' _ P p c v s e (by decide) (by decide) (by rw [k0]; omega) (Nat.lt_succ_self _) hp ht (RST_fr hR (fun _ _ => rfl) (fun t h => va_up_ne _ _ h)) (by rw [va_up_self, upd_s]; decide)
end PR11
/-! ===== pure: a CLAUSE, both sides ===== -/
section PR12
variable {J : Nat → Int64} {rj : Nat → Nat → Int64} {rq : Nat → Nat → Option Nat} {mj : Nat → Nat → Int64} {mq : Nat → Nat → Option Nat}
/-! which sorts came: the reference's bits, the class's row -/
theorem b1_0 : ∀ i, i < 32 → b3 1 i = decide (i = 0) := by unfold b3; decide +kernel
theorem tb_1 {s : Nat} (hs : s < 32) (w : Int32) : (w >>> (nI s &&& 31)) &&& 1 = 1 ↔ b3 w s = true := by
  constructor
  · intro h
    have h0 : b3 ((w >>> (nI s &&& 31)) &&& 1) 0 = b3 1 0 := by rw [h]
    rw [b_and, b_sshr s hs w (show 0 < 32 by decide), if_pos (show s + 0 < 32 by omega), b1_0 0 (by decide), Nat.add_zero] at h0
    simpa using h0
  · intro h
    apply b_ext
    intro i hi
    rw [b_and, b1_0 i hi]
    by_cases q : i = 0
    · subst q
      have e : b3 (w >>> (nI s &&& 31)) 0 = true := by
        rw [b_sshr s hs w hi, if_pos (show s + 0 < 32 by omega), Nat.add_zero]
        exact h
      rw [e, Bool.true_and]
    · rw [decide_eq_false q, Bool.and_false]
theorem b1_s : ∀ s, s < 32 → ∀ i, i < 32 → b3 ((1 : Int32) <<< (nI s &&& 31)) i = decide (i = s) := by unfold b3; decide +kernel
theorem sr_v {c : Int32} (h0 : 0 ≤ c.toInt) (h8 : c.toInt ≤ 8) : srC c = nI (c.toInt.toNat + 1) ∧ (srC c).toInt = c.toInt + 1 := by
  have d : c.toInt = 0 ∨ c.toInt = 1 ∨ c.toInt = 2 ∨ c.toInt = 3 ∨ c.toInt = 4 ∨ c.toInt = 5 ∨ c.toInt = 6 ∨ c.toInt = 7 ∨ c.toInt = 8 := by omega
  rcases d with d | d | d | d | d | d | d | d | d
  · rw [to_k (c := c) (k := 0) d (by decide)]; decide
  · rw [to_k (c := c) (k := 1) d (by decide)]; decide
  · rw [to_k (c := c) (k := 2) d (by decide)]; decide
  · rw [to_k (c := c) (k := 3) d (by decide)]; decide
  · rw [to_k (c := c) (k := 4) d (by decide)]; decide
  · rw [to_k (c := c) (k := 5) d (by decide)]; decide
  · rw [to_k (c := c) (k := 6) d (by decide)]; decide
  · rw [to_k (c := c) (k := 7) d (by decide)]; decide
  · rw [to_k (c := c) (k := 8) d (by decide)]; decide
theorem sr_0 {c : Int32} (h8 : 8 < c.toInt) : srC c = 0 := by
  have k : ∀ x : Int32, x.toInt ≤ 8 → ¬ c = x := fun x y z => by rw [z] at h8; omega
  unfold srC
  rw [if_neg (k 0 (by decide)), if_neg (k 1 (by decide)), if_neg (k 2 (by decide)), if_neg (k 3 (by decide)), if_neg (k 4 (by decide)), if_neg (k 5 (by decide)), if_neg (k 6 (by decide)), if_neg (k 7 (by decide)), if_neg (k 8 (by decide))]
theorem upN' {x : Int32} {p : Nat} (h : x.toInt = (p : Int)) (hp : p ≤ 20000) : (x + 1).toInt = ((p + 1 : Nat) : Int) := by
  have := i_add h (show (1 : Int32).toInt = 1 by decide) (by omega) (by omega)
  omega
def CAME (w : Int32) (row : Nat → Int32) (k : Nat) : Prop := ∀ a : Int32, 4 ≤ a.toInt → a.toInt ≤ 8 → (b3 w (a.toInt.toNat + 1) = true ↔ ∃ j, j < k ∧ row j = a)
theorem cam_0 {row : Nat → Int32} : CAME 0 row 0 := fun a _ _ => by
  rw [b_0]
  exact ⟨fun h => absurd h (by decide), fun ⟨_, h, _⟩ => absurd h (Nat.not_lt_zero _)⟩
theorem cam_up {w c : Int32} {row : Nat → Int32} {k : Nat} (h : CAME w row k) (h0 : 0 ≤ c.toInt) (h8 : c.toInt ≤ 8) : CAME (w ||| 1 <<< (srC c &&& 31)) (upd row k c) (k + 1) := by
  intro a ha1 ha2
  rw [b_or, (sr_v h0 h8).1, b1_s (c.toInt.toNat + 1) (by omega) (a.toInt.toNat + 1) (by omega), Bool.or_eq_true, decide_eq_true_iff, h a ha1 ha2]
  constructor
  · rintro (⟨j, j1, j2⟩ | q)
    · exact ⟨j, by omega, by rw [upd_n _ _ (by omega)]; exact j2⟩
    · exact ⟨k, Nat.lt_succ_self _, by rw [upd_s]; exact Int32.toInt_inj.mp (by omega)⟩
  · rintro ⟨j, j1, j2⟩
    by_cases q : j = k
    · right
      rw [q, upd_s] at j2
      rw [j2]
    · left
      rw [upd_n _ _ q] at j2
      exact ⟨j, by omega, j2⟩
theorem fo_L {a : Int32} {I : Nat → Int32} {ri : Nat → Nat → Int32} {k : Nat} (hk : (I 256).toInt = (k : Int)) (hk2 : k ≤ 20) : ∀ (m : Nat) (x : Int32) (j : Nat), x.toInt = (j : Int) → j ≤ k → k - j < m → (∀ i, i < j → ri 257 i ≠ a) → ∃ y : Int32, g_X8_firstOf_R_L2 a I J ri rj rq m x = (y, I, J, ri, rj, rq) ∧ (y = -1 ↔ ¬ ∃ i, i < k ∧ ri 257 i = a) := by
  intro m
  induction m with
  | zero => intro _ _ _ _ h; exact absurd h (Nat.not_lt_zero _)
  | succ m ih =>
    intro x j hx hj hm hn
    rw [g_X8_firstOf_R_L2_e]
    try simp only [↓ap1_n]
    by_cases q : I 256 ≤ x
    · have q1 := (le_n hk hx).mp q
      rw [if_pos q]
      exact ⟨-1, rfl, fun _ ⟨i, h1, h2⟩ => hn i (by omega) h2, fun _ => rfl⟩
    · have q1 : ¬ k ≤ j := fun y => q ((le_n hk hx).mpr y)
      rw [if_neg q, at_n hx]
      by_cases q2 : ri 257 j = a
      · rw [if_pos q2]
        refine ⟨x, rfl, fun y => ?_, fun y => absurd ⟨j, by omega, q2⟩ y⟩
        rw [y] at hx
        exact absurd hx (by rw [show (-1 : Int32).toInt = -1 by decide]; omega)
      · rw [if_neg q2]
        exact ih (x + Int32.ofInt 1) (j + 1) (up_i hx (by omega)) (by omega) (by omega) (fun i hi => by
          by_cases z : i = j
          · rw [z]; exact q2
          · exact hn i (by omega))
theorem fo_v {a : Int32} {I : Nat → Int32} {ri : Nat → Nat → Int32} {k : Nat} (hk : (I 256).toInt = (k : Int)) (hk2 : k ≤ 20) : ∃ y : Int32, g_X8_firstOf_R a I J ri rj rq = (y, I, J, ri, rj, rq) ∧ (y = -1 ↔ ¬ ∃ i, i < k ∧ ri 257 i = a) := by
  have k0 : (0 : Int32).toInt = 0 := by decide
  rw [g_X8_firstOf_R_e]
  exact fo_L hk hk2 _ 0 0 (by decide) (Nat.zero_le _) (by rw [k0]; omega) (fun i h => absurd h (Nat.not_lt_zero _))
/-- how the reading of a CLAUSE ends -/
def CRES (J : Nat → Int64) (rj : Nat → Nat → Int64) (rq : Nat → Nat → Option Nat) (mj : Nat → Nat → Int64) (mq : Nat → Nat → Option Nat) (n : Nat) (T : Nat → Int32) (k W : Nat) (X : vM) (Y : Int32 × vM) (tm0 : Int) : Prop := ∃ (f : Int32) (I1 : Nat → Int32) (J1 : Nat → Int64) (r1 : Nat → Nat → Int32), Y = (f, I1, J1, r1, mj, mq) ∧ ((f ≠ 0 ∧ ∃ s : Nat, (I1 392).toInt = (s : Int) ∧ FIN J rj rq f s X) ∨ (f = 0 ∧ ∃ (p2 : Nat) (c2 v2 : Int32) (s2 e2 : Nat) (P2 : List Int32) (If : Nat → Int32) (rf : Nat → Nat → Int32), TKC T n p2 c2 s2 e2 v2 ∧ RST n T c2 v2 s2 e2 P2 0 I1 J1 r1 ∧ X = (If, J, rf, rj, rq) ∧ PST n p2 T If rf ∧ (k ≤ 19 ∧ (If 256).toInt = ((k + 1 : Nat) : Int) ∧ (I1 397).toInt = ((k + 1 : Nat) : Int) ∧ CAME (I1 399) (rf 257) (k + 1) ∧ (I1 396).toInt = (W : Int)) ∧ tmM (I1 391).toInt (I1 393).toInt < tm0))
theorem RST_f2 {n : Nat} {T : Nat → Int32} {c v : Int32} {s e : Nat} {P : List Int32} {o : Nat} {I I' : Nat → Int32} {J1 : Nat → Int64} {r r' : Nat → Nat → Int32} (h : RST n T c v s e P o I J1 r) (hI : ∀ f, f ≠ 397 → f ≠ 398 → f ≠ 399 → I' f = I f) (hr : ∀ q, q ≠ 384 → r' q = r q) : RST n T c v s e P o I' J1 r' := by
  obtain ⟨⟨a1, a2⟩, ⟨b1, b2, b3⟩, ⟨c1, c2⟩, d1⟩ := h
  have z : ∀ f, f < 397 ∨ 399 < f → I' f = I f := fun f hf => hI f (by omega) (by omega) (by omega)
  exact ⟨⟨by rw [z 388 (by decide)]; exact a1, by rw [hr 387 (by decide)]; exact a2⟩, ⟨by rw [z 391 (by decide)]; exact b1, by rw [z 392 (by decide)]; exact b2, TKF_fr b3 (z 393 (by decide)) (z 394 (by decide))⟩, ⟨by rw [z 401 (by decide)]; exact c1, by rw [hr 400 (by decide)]; exact c2⟩, by rw [z 402 (by decide)]; exact d1⟩
/-- ; behind what was read -/
theorem close {n : Nat} {T : Nat → Int32} (h3 : n ≤ 300) (hb : ∀ j, j < n → 0 ≤ (T j).toInt) {k W : Nat} (hk : k ≤ 19) {X' : vM} {Y' : Int32 × vM} {tm0 : Int} (E : ERES J rj rq mj mq n T X' Y' tm0) {row : Nat → Int32} {w : Int32} (f256 : (X'.1 256).toInt = ((k + 1 : Nat) : Int)) (f257 : X'.2.2.1 257 = row) (g397 : (Y'.2.1 397).toInt = (k : Int)) (g399 : Y'.2.1 399 = w) (g396 : (Y'.2.1 396).toInt = (W : Int)) (cm : CAME w row (k + 1)) (R : (Nat → Int32) → (Nat → Nat → Int32) → Nat → Nat → Int32) (hR : ∀ I r q, q ≠ 384 → R I r q = r q) : CRES J rj rq mj mq n T k W (bnV X' fun (I2 : Nat → Int32) (_ : Nat → Int64) (r2 : Nat → Nat → Int32) (_ : Nat → Nat → Int64) (_ : Nat → Nat → Option Nat) => ((I2, J, va_up r2 258 (upd (r2 258) (I2 256).toNatClampNeg (I2 132)), rj, rq) : vM)) (bnI Y' fun (x : Int32) (I3 : Nat → Int32) (J3 : Nat → Int64) (r3 : Nat → Nat → Int32) (_ : Nat → Nat → Int64) (_ : Nat → Nat → Option Nat) => if x = 0 then (if I3 393 = 59 then bnV (g_X12_nextToken_x (va_up I3 397 (I3 397 + 1)) J3 (R I3 r3) mj mq) fun (I5 : Nat → Int32) (J5 : Nat → Int64) (_ : Nat → Nat → Int32) (_ : Nat → Nat → Int64) (_ : Nat → Nat → Option Nat) => (((0 : Int32), I5, J5, R I3 r3, mj, mq) : Int32 × vM) else ((1 : Int32), I3, J3, R I3 r3, mj, mq)) else (x, I3, J3, R I3 r3, mj, mq)) tm0 := by
  obtain ⟨f, I1, J1, r1, e, h⟩ := E
  subst e
  rcases h with ⟨y, s, y1, If, rf, x1, x2, x3⟩ | ⟨y, p2, c2, v2, s2, e2, P2, a1, a2, a3, a4⟩
  · subst x1
    rw [bv_n rfl, bn_n rfl, if_neg y]
    exact ⟨f, I1, J1, R I1 r1, rfl, Or.inl ⟨y, s, y1, If, _, rfl, x2, x3⟩⟩
  · subst y
    have a2' := a2
    obtain ⟨⟨m1, m2⟩, ⟨m3, m4, m5⟩, ⟨m6, m7⟩, m8⟩ := a2'
    obtain ⟨t0, t18, t33, s19, s20, s21, s22, s23, s24, s25, s26, s27, s28, s29, s30, s31, s32, t2, tv, tw⟩ := m5
    have hle := TKC_le a1
    rcases a3 with ⟨c32, If, rf, x1, x2, x3, x4, x5⟩ | ⟨c32, If, rf, x1, x2, x3⟩
    · subst x1
      rw [bv_n rfl, bn_n rfl, if_pos (show (0 : Int32) = 0 from rfl), if_pos (s32.mpr c32)]
      obtain ⟨c3, s3, e3, v3, ht3⟩ := TKC_ex T hle.2.2.1
      have hR2 : RST n T c2 v2 s2 e2 P2 0 (va_up I1 397 (I1 397 + 1)) J1 (R I1 r1) := RST_f2 a2 (fun f h1 _ _ => va_up_ne _ _ h1) (hR I1 r1)
      obtain ⟨I5, J5, f1, f2, f3⟩ := RST_n (mj := mj) (mq := mq) h3 hb hR2 hle.2.2.1 ht3
      rw [bv_n f1]
      obtain ⟨n1, n2⟩ := tm_nx h3 hR2 (by rw [c32]; decide) f2 ht3
      have z1 : va_up I1 397 (I1 397 + 1) 391 = I1 391 := va_up_ne _ _ (by decide)
      have z3 : va_up I1 397 (I1 397 + 1) 393 = I1 393 := va_up_ne _ _ (by decide)
      rw [z1, z3] at n1
      refine ⟨0, I5, J5, R I1 r1, rfl, Or.inr ⟨rfl, e2, c3, v3, s3, e3, P2, If, _, ht3, f2, rfl, ⟨x3, ?_, x5, hle.2.2.1, x2⟩, ⟨hk, f256, ?_, ?_, ?_⟩, by omega⟩⟩
      · rw [va_up_ne _ _ (show (192 : Nat) ≠ 258 by decide)]; exact x4
      · rw [f3 397 (by decide) (by decide) (by decide) (by decide), va_up_self]
        exact upN g397 (by omega)
      · rw [f3 399 (by decide) (by decide) (by decide) (by decide), va_up_ne _ _ (show (399 : Nat) ≠ 397 by decide), va_up_ne _ _ (show (257 : Nat) ≠ 258 by decide)]
        rw [show I1 399 = w from g399, show rf 257 = row from f257]
        exact cm
      · rw [f3 396 (by decide) (by decide) (by decide) (by decide), va_up_ne _ _ (show (396 : Nat) ≠ 397 by decide)]
        exact g396
    · subst x1
      rw [bv_n rfl, bn_n rfl, if_pos (show (0 : Int32) = 0 from rfl), if_neg (fun z => c32 (s32.mp z))]
      exact ⟨1, I1, J1, R I1 r1, rfl, Or.inl ⟨by decide, s2, m4, If, _, rfl, x2, x3⟩⟩
theorem clause_sim {n : Nat} {T : Nat → Int32} (h3 : n ≤ 300) (hb : ∀ j, j < n → 0 ≤ (T j).toInt) {k W p : Nat} {I : Nat → Int32} {r : Nat → Nat → Int32} {c v : Int32} {s e : Nat} (hp : PST n e T I r) (g1 : I 194 = c) (g2 : (I 195).toInt = (s : Int)) (f256 : (I 256).toInt = (k : Int)) (hk : k ≤ 20) (ht : TKC T n p c s e v) {I' : Nat → Int32} {J' : Nat → Int64} {r' : Nat → Nat → Int32} {P : List Int32} (hR : RST n T c v s e P 0 I' J' r') (g397 : (I' 397).toInt = (k : Int)) (cm : CAME (I' 399) (r 257) k) (g396 : (I' 396).toInt = (W : Int)) (hW : W ≤ 20000) : CRES J rj rq mj mq n T k W (g_X4_readClause I J r rj rq) (g_X12_clause I' J' r' mj mq) (tmM (I' 391).toInt (I' 393).toInt) := by
  have hR' := hR
  obtain ⟨⟨a1, a2⟩, ⟨b1, b2, b3⟩, _, _⟩ := hR'
  have h0 := b3.1.1
  have k4 : (4 : Int32).toInt = 4 := by decide
  have k5 : (5 : Int32).toInt = 5 := by decide
  have k6 : (6 : Int32).toInt = 6 := by decide
  have k8 : (8 : Int32).toInt = 8 := by decide
  have k20 : (20 : Int32).toInt = ((20 : Nat) : Int) := by decide
  have k0 : (0 : Int32).toInt = 0 := by decide
  have hle := TKC_le ht
  have rf : ∀ a : Int32, a ≠ 0 → CRES J rj rq mj mq n T k W (bnV (g_X4_refuse a I J r rj rq) fun (I1 : Nat → Int32) (_ : Nat → Int64) (_ : Nat → Nat → Int32) (_ : Nat → Nat → Int64) (_ : Nat → Nat → Option Nat) => ((I1, J, r, rj, rq) : vM)) (a, I', J', r', mj, mq) (tmM (I' 391).toInt (I' 393).toInt) := fun a ha => by
    rw [bv_n (refuse_c hp.2.2.2.2)]
    exact ⟨a, I', J', r', rfl, Or.inl ⟨ha, s, b2, _, r, rfl, refuse_1.1, by rw [refuse_1.2]; exact g2⟩⟩
  rw [g_X4_readClause_e, g_X12_clause_e]
  try simp only [↓ap1_n]
  rw [bn_n (sort_m b3), g1]
  by_cases c8 : c.toInt ≤ 8
  · obtain ⟨sv1, sv2⟩ := sr_v h0 c8
    rw [if_pos (show c ≤ 8 from Int32.le_iff_toInt_le.mpr (by omega)), if_neg (show ¬ srC c = 0 from fun y => by rw [y, k0] at sv2; omega)]
    have lt20 : I 256 < 20 ↔ k < 20 := by rw [Int32.lt_iff_toInt_lt, f256, k20]; omega
    have eq20 : I' 397 = 20 ↔ k = 20 := eq_n g397 k20
    -- what is read next, both sides
    have hp1 : PST n e T (va_up I 256 (I 256 + 1)) (va_up r 257 (upd (r 257) (I 256).toNatClampNeg c)) := by
      obtain ⟨z1, z2, z3, z4, z5⟩ := hp
      exact ⟨by rw [va_up_ne _ _ (show (193 : Nat) ≠ 256 by decide)]; exact z1, by rw [va_up_ne _ _ (show (192 : Nat) ≠ 257 by decide)]; exact z2, by rw [va_up_ne _ _ (show (197 : Nat) ≠ 256 by decide)]; exact z3, z4, by rw [va_up_ne _ _ (show (129 : Nat) ≠ 256 by decide)]; exact z5⟩
    obtain ⟨c2, s2, e2, v2, ht2⟩ := TKC_ex T hle.2.2.1
    have n33 : c ≠ 33 := fun y => by rw [y] at c8; exact absurd c8 (by decide)
    have nx : ∀ (K : Nat → Int32) (rK : Nat → Nat → Int32), (∀ f, f ≠ 397 → f ≠ 398 → f ≠ 399 → K f = I' f) → (∀ q, q ≠ 384 → rK q = r' q) → ∃ (I5 : Nat → Int32) (J5 : Nat → Int64), g_X12_nextToken_x K J' rK mj mq = (I5, J5, rK, mj, mq) ∧ RST n T c2 v2 s2 e2 P 0 I5 J5 rK ∧ (∀ f, f ≠ 391 → f ≠ 392 → f ≠ 393 → f ≠ 394 → I5 f = K f) ∧ tmM (I5 391).toInt (I5 393).toInt < tmM (I' 391).toInt (I' 393).toInt := fun K rK hK hr => by
      have hR1 := RST_f2 hR hK hr
      obtain ⟨I5, J5, f1, f2, f3⟩ := RST_n (mj := mj) (mq := mq) h3 hb hR1 hle.2.2.1 ht2
      obtain ⟨n1, _⟩ := tm_nx h3 hR1 n33 f2 ht2
      rw [hK 391 (by decide) (by decide) (by decide), hK 393 (by decide) (by decide) (by decide)] at n1
      exact ⟨I5, J5, f1, f2, f3, n1⟩
    have q256 : k ≤ 19 → (va_up I 256 (I 256 + 1) 256).toInt = ((k + 1 : Nat) : Int) := fun h => by rw [va_up_self]; exact upN f256 (by omega)
    have q257 : va_up r 257 (upd (r 257) (I 256).toNatClampNeg c) 257 = upd (r 257) k c := by rw [va_up_self, at_n f256]
    have cm1 : CAME (I' 399 ||| 1 <<< (srC c &&& 31)) (upd (r 257) k c) (k + 1) := cam_up cm h0 c8
    have up9 : ∀ (v : Int32) (f : Nat), f ≠ 397 → f ≠ 398 → f ≠ 399 → va_up I' 399 v f = I' f := fun v f _ _ h => va_up_ne _ _ h
    by_cases c3 : c.toInt < 4
    · rw [if_pos (show c < 4 from Int32.lt_iff_toInt_lt.mpr (by omega)), if_pos (show srC c < 5 from Int32.lt_iff_toInt_lt.mpr (by omega))]
      by_cases hk2 : k < 20
      · rw [if_pos (lt20.mpr hk2), if_neg (show ¬ I' 397 = 20 from fun y => by have := eq20.mp y; omega)]
        obtain ⟨I5, J5, f1, f2, f3, f4⟩ := nx (va_up I' 399 (I' 399 ||| 1 <<< (srC c &&& 31))) (va_up r' 384 (upd (r' 384) ((va_up I' 399 (I' 399 ||| 1 <<< (srC c &&& 31)) 396 : Int32) + (1 : Int32) + (12 : Int32) * (va_up I' 399 (I' 399 ||| 1 <<< (srC c &&& 31)) 397 : Int32)).toNatClampNeg (srC c))) (up9 _) (fun q hq => va_up_ne r' _ hq)
        rw [bv_n f1]
        have z397 : (I5 397).toInt = (k : Int) := by rw [f3 397 (by decide) (by decide) (by decide) (by decide), va_up_ne _ _ (show (397 : Nat) ≠ 399 by decide)]; exact g397
        have z399 : I5 399 = I' 399 ||| 1 <<< (srC c &&& 31) := by rw [f3 399 (by decide) (by decide) (by decide) (by decide), va_up_self]
        have z396 : (I5 396).toInt = (W : Int) := by rw [f3 396 (by decide) (by decide) (by decide) (by decide), va_up_ne _ _ (show (396 : Nat) ≠ 399 by decide)]; exact g396
        have hR5 : RST n T c2 v2 s2 e2 P 0 I5 J5 (va_up (va_up r' 384 (upd (r' 384) ((va_up I' 399 (I' 399 ||| 1 <<< (srC c &&& 31)) 396 : Int32) + (1 : Int32) + (12 : Int32) * (va_up I' 399 (I' 399 ||| 1 <<< (srC c &&& 31)) 397 : Int32)).toNatClampNeg (srC c))) 384 (upd ((va_up r' 384 (upd (r' 384) ((va_up I' 399 (I' 399 ||| 1 <<< (srC c &&& 31)) 396 : Int32) + (1 : Int32) + (12 : Int32) * (va_up I' 399 (I' 399 ||| 1 <<< (srC c &&& 31)) 397 : Int32)).toNatClampNeg (srC c))) 384) (((va_up I' 399 (I' 399 ||| 1 <<< (srC c &&& 31)) 396 : Int32) + (1 : Int32) + (12 : Int32) * (va_up I' 399 (I' 399 ||| 1 <<< (srC c &&& 31)) 397 : Int32)) + (2 : Int32)).toNatClampNeg (I5 398))) := RST_f2 f2 (fun _ _ _ _ => rfl) (fun q hq => va_up_ne _ _ hq)
        have E := eith_sim (J := J) (rj := rj) (rq := rq) (mj := mj) (mq := mq) h3 hb hp1.1 hp1.2.1 hp1.2.2.1 hp1.2.2.2.1 hp1.2.2.2.2 ht2 hR5
        have fx : FRG id w_X4_readEither _ (g_X4_readEither (va_up I 256 (I 256 + 1)) J (va_up r 257 (upd (r 257) (I 256).toNatClampNeg c)) rj rq) := g_X4_readEither_f
        have fy : ∀ rK, FRG Prod.snd w_X12_either (I5, J5, rK, mj, mq) (g_X12_either I5 J5 rK mj mq) := fun rK => g_X12_either_f
        exact close h3 hb (by omega) (ERES_w E (Int.le_of_lt f4)) ((congrArg Int32.toInt (fx.1 256 (by decide))).trans (q256 (by omega))) ((fx.2.2.1 257 (by decide)).trans q257) ((congrArg Int32.toInt ((fy _).1 397 (by decide))).trans z397) (((fy _).1 399 (by decide)).trans z399) ((congrArg Int32.toInt ((fy _).1 396 (by decide))).trans z396) cm1 (fun I3 r3 => va_up r3 384 (upd (r3 384) (((va_up I' 399 (I' 399 ||| 1 <<< (srC c &&& 31)) 396 : Int32) + (1 : Int32) + (12 : Int32) * (va_up I' 399 (I' 399 ||| 1 <<< (srC c &&& 31)) 397 : Int32)) + (3 : Int32)).toNatClampNeg (I3 398))) (fun _ _ _ h => va_up_ne _ _ h)
      · rw [if_neg (fun y => hk2 (lt20.mp y)), if_pos (eq20.mpr (by omega))]
        exact rf 5 (by decide)
    · rw [if_neg (show ¬ c < 4 from fun y => by have := Int32.lt_iff_toInt_lt.mp y; omega), if_neg (show ¬ srC c < 5 from fun y => by have := Int32.lt_iff_toInt_lt.mp y; omega)]
      obtain ⟨y, y1, y2⟩ := fo_v (a := c) (J := J) (ri := r) (rj := rj) (rq := rq) f256 hk
      rw [bn_n y1]
      have tb : (I' 399 >>> (srC c &&& 31)) &&& 1 = 1 ↔ ∃ i, i < k ∧ r 257 i = c := by
        rw [sv1, tb_1 (s := c.toInt.toNat + 1) (by omega)]
        exact cm c (by omega) c8
      by_cases q : ∃ i, i < k ∧ r 257 i = c
      · rw [if_neg (fun z => (y2.mp z) q), if_pos (tb.mpr q)]
        exact rf 4 (by decide)
      · rw [if_pos (y2.mpr q), if_neg (fun z => q (tb.mp z))]
        by_cases hk2 : k < 20
        · rw [if_pos (lt20.mpr hk2), if_neg (show ¬ I' 397 = 20 from fun y => by have := eq20.mp y; omega)]
          obtain ⟨I5, J5, f1, f2, f3, f4⟩ := nx (va_up I' 399 (I' 399 ||| 1 <<< (srC c &&& 31))) (va_up r' 384 (upd (r' 384) ((va_up I' 399 (I' 399 ||| 1 <<< (srC c &&& 31)) 396 : Int32) + (1 : Int32) + (12 : Int32) * (va_up I' 399 (I' 399 ||| 1 <<< (srC c &&& 31)) 397 : Int32)).toNatClampNeg (srC c))) (up9 _) (fun q hq => va_up_ne r' _ hq)
          rw [bv_n f1]
          have z397 : (I5 397).toInt = (k : Int) := by rw [f3 397 (by decide) (by decide) (by decide) (by decide), va_up_ne _ _ (show (397 : Nat) ≠ 399 by decide)]; exact g397
          have z399 : I5 399 = I' 399 ||| 1 <<< (srC c &&& 31) := by rw [f3 399 (by decide) (by decide) (by decide) (by decide), va_up_self]
          have z396 : (I5 396).toInt = (W : Int) := by rw [f3 396 (by decide) (by decide) (by decide) (by decide), va_up_ne _ _ (show (396 : Nat) ≠ 399 by decide)]; exact g396
          by_cases c6 : 5 < c.toInt
          · rw [if_pos (show 5 < c from Int32.lt_iff_toInt_lt.mpr (by omega)), if_pos (show 6 < srC c from Int32.lt_iff_toInt_lt.mpr (by omega))]
            -- a number
            have num : ∀ (a x : Int32) (rK : Nat → Nat → Int32), RST n T c2 v2 s2 e2 P 0 I5 J5 rK → a.toInt ≤ 9999 → CRES J rj rq mj mq n T k W (bnV (g_X4_readNumber a (va_up I 256 (I 256 + 1)) J (va_up r 257 (upd (r 257) (I 256).toNatClampNeg c)) rj rq) fun (I2 : Nat → Int32) (_ : Nat → Int64) (r2 : Nat → Nat → Int32) (_ : Nat → Nat → Int64) (_ : Nat → Nat → Option Nat) => ((I2, J, va_up r2 258 (upd (r2 258) (I2 256).toNatClampNeg (I2 132)), rj, rq) : vM)) (bnI (g_X12_take a x I5 J5 rK mj mq) fun (x : Int32) (I3 : Nat → Int32) (J3 : Nat → Int64) (r3 : Nat → Nat → Int32) (_ : Nat → Nat → Int64) (_ : Nat → Nat → Option Nat) => if x = 0 then (if I3 393 = 59 then bnV (g_X12_nextToken_x (va_up I3 397 (I3 397 + 1)) J3 r3 mj mq) fun (I5 : Nat → Int32) (J5 : Nat → Int64) (_ : Nat → Nat → Int32) (_ : Nat → Nat → Int64) (_ : Nat → Nat → Option Nat) => (((0 : Int32), I5, J5, r3, mj, mq) : Int32 × vM) else ((1 : Int32), I3, J3, r3, mj, mq)) else (x, I3, J3, r3, mj, mq)) (tmM (I' 391).toInt (I' 393).toInt) := fun a x rK hRK ha => by
              have E := num_sim (J := J) (rj := rj) (rq := rq) (mj := mj) (mq := mq) (x := x) h3 hb ha hp1 ht2 hRK
              have fx : FRG id w_X4_readNumber _ (g_X4_readNumber a (va_up I 256 (I 256 + 1)) J (va_up r 257 (upd (r 257) (I 256).toNatClampNeg c)) rj rq) := g_X4_readNumber_f
              have fy : FRG Prod.snd w_X12_take (I5, J5, rK, mj, mq) (g_X12_take a x I5 J5 rK mj mq) := g_X12_take_f
              exact close h3 hb (by omega) (ERES_w E (Int.le_of_lt f4)) ((congrArg Int32.toInt (fx.1 256 (by decide))).trans (q256 (by omega))) ((fx.2.2.1 257 (by decide)).trans q257) ((congrArg Int32.toInt (fy.1 397 (by decide))).trans z397) ((fy.1 399 (by decide)).trans z399) ((congrArg Int32.toInt (fy.1 396 (by decide))).trans z396) cm1 (fun _ r3 => r3) (fun _ _ _ _ => rfl)
            have d : c.toInt = 6 ∨ c.toInt = 7 ∨ c.toInt = 8 := by omega
            rcases d with d | d | d
            · have ec : c = 6 := to_k (k := 6) d (by decide)
              rw [show g_X4_mostOf c = 100 by rw [ec]; decide, if_pos (show srC c = 7 by rw [ec]; decide)]
              exact num 100 _ _ f2 (by decide)
            · have ec : c = 7 := to_k (k := 7) d (by decide)
              rw [show g_X4_mostOf c = 599 by rw [ec]; decide, if_neg (show ¬ srC c = 7 by rw [ec]; decide), if_pos (show srC c = 8 by rw [ec]; decide)]
              exact num 599 _ _ f2 (by decide)
            · have ec : c = 8 := to_k (k := 8) d (by decide)
              rw [show g_X4_mostOf c = 1000 by rw [ec]; decide, if_neg (show ¬ srC c = 7 by rw [ec]; decide), if_neg (show ¬ srC c = 8 by rw [ec]; decide)]
              exact num 1000 _ _ f2 (by decide)
          · rw [if_neg (show ¬ 5 < c from fun y => by have := Int32.lt_iff_toInt_lt.mp y; omega), if_neg (show ¬ 6 < srC c from fun y => by have := Int32.lt_iff_toInt_lt.mp y; omega)]
            -- KEYS
            have hA : ∀ v : Int32, (va_up I' 399 v 396 + 1 + 12 * va_up I' 399 v 397).toInt = ((W + 1 + 12 * k : Nat) : Int) := fun v => by
              rw [va_up_ne _ _ (show (396 : Nat) ≠ 399 by decide), va_up_ne _ _ (show (397 : Nat) ≠ 399 by decide)]
              have m1 := upN' g396 hW
              have m2 := i_mul (show (12 : Int32).toInt = 12 by decide) g397 (by omega) (by omega)
              have := i_add m1 m2 (by omega) (by omega)
              omega
            have E := keys_sim (J := J) (rj := rj) (rq := rq) (mj := mj) (mq := mq) h3 hb (hA (I' 399 ||| 1 <<< (srC c &&& 31))) (by omega) hp1 ht2 f2
            have fx : FRG id w_X4_readKeys _ (g_X4_readKeys (va_up I 256 (I 256 + 1)) J (va_up r 257 (upd (r 257) (I 256).toNatClampNeg c)) rj rq) := g_X4_readKeys_f
            have fy : ∀ a rK, FRG Prod.snd w_X12_keys (I5, J5, rK, mj, mq) (g_X12_keys a I5 J5 rK mj mq) := fun a rK => g_X12_keys_f
            exact close h3 hb (by omega) (ERES_w E (Int.le_of_lt f4)) ((congrArg Int32.toInt (fx.1 256 (by decide))).trans (q256 (by omega))) ((fx.2.2.1 257 (by decide)).trans q257) ((congrArg Int32.toInt ((fy _ _).1 397 (by decide))).trans z397) (((fy _ _).1 399 (by decide)).trans z399) ((congrArg Int32.toInt ((fy _ _).1 396 (by decide))).trans z396) cm1 (fun _ r3 => r3) (fun _ _ _ _ => rfl)
        · rw [if_neg (fun y => hk2 (lt20.mp y)), if_pos (eq20.mpr (by omega))]
          exact rf 5 (by decide)
  · rw [if_neg (show ¬ c ≤ 8 from fun y => by have := Int32.le_iff_toInt_le.mp y; omega), if_pos (sr_0 (by omega))]
    exact rf 1 (by decide)
end PR12
/-! ===== pure: a TEXT, both sides ===== -/
section PR13
variable {J : Nat → Int64} {rj : Nat → Nat → Int64} {rq : Nat → Nat → Option Nat} {mj : Nat → Nat → Int64} {mq : Nat → Nat → Option Nat}
theorem adv_f {I : Nat → Int32} {r : Nat → Nat → Int32} : ∃ I2 : Nat → Int32, g_X6_advance I J r rj rq = (I2, J, r, rj, rq) ∧ I2 129 = I 129 ∧ I2 130 = I 130 := by
  have fx : FRG id w_X6_advance (I, J, r, rj, rq) (g_X6_advance I J r rj rq) := g_X6_advance_f
  generalize g_X6_advance I J r rj rq = A at fx ⊢
  obtain ⟨I2, J2, r2, l2, q2⟩ := A
  have fv : FRV w_X6_advance (I, J, r, rj, rq) (I2, J2, r2, l2, q2) := fx
  have e1 : J2 = J := fe_J fv
  have e2 : r2 = r := fe_ri fv
  have e3 : l2 = rj := fe_rj fv
  have e4 : q2 = rq := fe_rq fv
  subst e1 e2 e3 e4
  exact ⟨I2, rfl, fv.1 129 (by decide), fv.1 130 (by decide)⟩
theorem RD_f {N : Nat} {x : Int32} {I : Nat → Int32} {r : Nat → Nat → Int32} (h : I 129 ≠ 0) : g_X4_read_rest_L42 J rj rq N x I r = (I, J, r, rj, rq) := by
  cases N with
  | zero => rfl
  | succ N =>
    rw [g_X4_read_rest_L42_e]
    try simp only [↓ap1_n]
    by_cases c : (300 : Int32) < x
    · rw [if_pos c]
    · rw [if_neg c, if_neg h]
/-- how the reading of a TEXT ends: a fault and its place, or as many CLAUSES -/
def TRES (J : Nat → Int64) (rj : Nat → Nat → Int64) (rq : Nat → Nat → Option Nat) (mj : Nat → Nat → Int64) (mq : Nat → Nat → Option Nat) (W : Nat) (z : Int32) (X : vM) (Y : Int32 × vM) : Prop := ∃ (f : Int32) (I1 : Nat → Int32) (J1 : Nat → Int64) (r1 : Nat → Nat → Int32) (If : Nat → Int32) (rf : Nat → Nat → Int32), Y = (f, I1, J1, r1, mj, mq) ∧ X = (If, J, rf, rj, rq) ∧ ((f ≠ 0 ∧ If 129 = f ∧ If 130 = I1 392) ∨ (f = 0 ∧ If 129 = 0 ∧ If 130 = z ∧ If 256 = I1 397 ∧ (I1 396).toInt = (W : Int)))
theorem text_L {n : Nat} {T : Nat → Int32} (h3 : n ≤ 300) (hb : ∀ j, j < n → 0 ≤ (T j).toInt) {W : Nat} (hW : W ≤ 20000) {z : Int32} : ∀ (m N : Nat) (x : Int32) (I : Nat → Int32) (r : Nat → Nat → Int32) (I' : Nat → Int32) (J' : Nat → Int64) (r' : Nat → Nat → Int32) (P : List Int32) (p : Nat) (c v : Int32) (s e k : Nat), (tmM (I' 391).toInt (I' 393).toInt).toNat < m → x.toInt = (k : Int) → k ≤ 20 → 301 - k < N → PST n e T I r → I 194 = c → (I 195).toInt = (s : Int) → (I 256).toInt = (k : Int) → I 130 = z → TKC T n p c s e v → RST n T c v s e P 0 I' J' r' → (I' 397).toInt = (k : Int) → CAME (I' 399) (r 257) k → (I' 396).toInt = (W : Int) → TRES J rj rq mj mq W z (g_X4_read_rest_L42 J rj rq N x I r) (g_X12_readText_L48 mj mq m I' J' r') := by
  intro m
  induction m with
  | zero => intro _ _ _ _ _ _ _ _ _ _ _ _ _ _ h; exact absurd h (Nat.not_lt_zero _)
  | succ m ih =>
    intro N x I r I' J' r' P p c v s e k hm hx hk hN hp g1 g2 g256 g130 ht hR g397 cm g396
    cases N with
    | zero => exact absurd hN (Nat.not_lt_zero _)
    | succ N =>
    have k300 : (300 : Int32).toInt = 300 := by decide
    have hR' := hR
    obtain ⟨_, ⟨b1, b2, b3⟩, _, _⟩ := hR'
    have t33 := b3.2.2.1
    rw [g_X4_read_rest_L42_e, g_X12_readText_L48_e]
    try simp only [↓ap1_n]
    rw [if_neg (show ¬ (300 : Int32) < x from fun q => by have := Int32.lt_iff_toInt_lt.mp q; omega), if_pos hp.2.2.2.2, g1]
    by_cases c33 : c = 33
    · rw [if_pos c33, if_pos (t33.mpr c33)]
      exact ⟨0, I', J', r', I, r, rfl, rfl, Or.inr ⟨rfl, hp.2.2.2.2, g130, Int32.toInt_inj.mp (g256.trans g397.symm), g396⟩⟩
    · rw [if_neg c33, if_neg (fun y => c33 (t33.mp y))]
      obtain ⟨f, I1, J1, r1, e1, h⟩ := clause_sim (J := J) (rj := rj) (rq := rq) (mj := mj) (mq := mq) h3 hb hp g1 g2 g256 hk ht hR g397 cm g396 hW
      rw [bn_n e1]
      rcases h with ⟨y, s0, y1, If, rf, x1, x2, x3⟩ | ⟨y, p2, c2, v2, s2, e2, P2, If, rf, a1, a2, x1, a4, ⟨k19, a5, a6, a7, a8⟩, a9⟩
      · rw [bv_n x1, if_neg y]
        obtain ⟨I2, i1, i2, i3⟩ := adv_f (J := J) (rj := rj) (rq := rq) (I := If) (r := rf)
        rw [bv_n i1, RD_f (by rw [i2, x2]; exact y)]
        exact ⟨f, I1, J1, r1, I2, rf, rfl, rfl, Or.inl ⟨y, i2.trans x2, i3.trans (Int32.toInt_inj.mp (x3.trans y1.symm))⟩⟩
      · subst y
        rw [bv_n x1, if_pos (show (0 : Int32) = 0 from rfl)]
        obtain ⟨I2, i1, i2, i3, _, hp2, i6⟩ := PST_n (J := J) (rj := rj) (rq := rq) h3 a4 a1
        rw [bv_n i1]
        have sy : STG id I (g_X4_readClause I J r rj rq) := g_X4_readClause_s
        rw [x1] at sy
        have z130 : If 130 = z := by
          rcases sy with q | ⟨_, q⟩
          · exact absurd a4.2.2.2.2 q
          · exact q.trans g130
        have te : 0 ≤ tmM (I1 391).toInt (I1 393).toInt := tm_b (by have := a2.2.1.1; have := (TKC_le a1).2.2.1; omega)
        exact ih N (x + Int32.ofInt 1) I2 rf I1 J1 r1 P2 p2 c2 v2 s2 e2 (k + 1) (by omega) (up_i hx (by omega)) (by omega) (by omega) hp2 i2 i3 (by rw [i6 256 (by decide) (by decide) (by decide) (by decide)]; exact a5) (by rw [i6 130 (by decide) (by decide) (by decide) (by decide)]; exact z130) a1 a2 a6 a7 a8
/-- read() of the class, behind its beginning, and readText() of the reference -/
theorem text_sim {n : Nat} {T : Nat → Int32} (h3 : n ≤ 300) (hb : ∀ j, j < n → 0 ≤ (T j).toInt) {I : Nat → Int32} {r : Nat → Nat → Int32} (hn : (I 193).toInt = (n : Int)) (hT : r 192 = T) (h129 : I 129 = 0) (h256 : I 256 = 0) {I' : Nat → Int32} {J' : Nat → Int64} {r' : Nat → Nat → Int32} (mn : (I' 388).toInt = (n : Int)) (mT : r' 387 = T) (m401 : 0 ≤ (I' 401).toInt) {t : Nat} (h6 : (r' 384 6).toInt = (t : Int)) (ht9 : t ≤ 9) : TRES J rj rq mj mq (3720 + 900 * t) (I 130) (g_X4_read_rest I J r rj rq) (g_X12_readText I' J' r' mj mq) := by
  have k0 : (0 : Int32).toInt = 0 := by decide
  rw [g_X4_read_rest_e, g_X12_readText_e]
  try simp only [↓ap1_n]
  rw [g_X6_rewind_e]
  try simp only [↓ap1_n]
  rw [bv_n (show ((va_up (va_up I 132 0) 197 0, J, r, rj, rq) : vM) = (va_up (va_up I 132 0) 197 0, J, r, rj, rq) from rfl)]
  -- the class at its first TOKEN
  have hp : PST n 0 T (va_up (va_up I 132 0) 197 0) r := ⟨by rw [va_up_ne _ _ (show (193 : Nat) ≠ 197 by decide), va_up_ne _ _ (show (193 : Nat) ≠ 132 by decide)]; exact hn, hT, by rw [va_up_self]; exact k0, Nat.zero_le _, by rw [va_up_ne _ _ (show (129 : Nat) ≠ 197 by decide), va_up_ne _ _ (show (129 : Nat) ≠ 132 by decide)]; exact h129⟩
  obtain ⟨c, s, e, v, ht⟩ := TKC_ex T (n := n) (p := 0) (Nat.zero_le _)
  obtain ⟨I2, i1, i2, i3, _, hp2, i6⟩ := PST_n (J := J) (rj := rj) (rq := rq) h3 hp ht
  rw [bv_n i1]
  -- the reference at its first TOKEN
  generalize hK : va_up (va_up (va_up (va_up (va_up (va_up I' 396 (3720 + 900 * r' 384 6)) 397 0) 398 0) 402 0) 399 0) 391 0 = K
  have zz : ∀ f, f ≠ 396 → f ≠ 397 → f ≠ 398 → f ≠ 402 → f ≠ 399 → f ≠ 391 → K f = I' f := fun f h1 h2 h3 h4 h5 h6 => by rw [← hK, va_up_ne _ _ h6, va_up_ne _ _ h5, va_up_ne _ _ h4, va_up_ne _ _ h3, va_up_ne _ _ h2, va_up_ne _ _ h1]
  have z391 : K 391 = 0 := by rw [← hK, va_up_self]
  have z399 : K 399 = 0 := by rw [← hK, va_up_ne _ _ (show (399 : Nat) ≠ 391 by decide), va_up_self]
  have z402 : K 402 = 0 := by rw [← hK, va_up_ne _ _ (show (402 : Nat) ≠ 391 by decide), va_up_ne _ _ (show (402 : Nat) ≠ 399 by decide), va_up_self]
  have z397 : K 397 = 0 := by rw [← hK, va_up_ne _ _ (show (397 : Nat) ≠ 391 by decide), va_up_ne _ _ (show (397 : Nat) ≠ 399 by decide), va_up_ne _ _ (show (397 : Nat) ≠ 402 by decide), va_up_ne _ _ (show (397 : Nat) ≠ 398 by decide), va_up_self]
  have z396 : K 396 = 3720 + 900 * r' 384 6 := by rw [← hK, va_up_ne _ _ (show (396 : Nat) ≠ 391 by decide), va_up_ne _ _ (show (396 : Nat) ≠ 399 by decide), va_up_ne _ _ (show (396 : Nat) ≠ 402 by decide), va_up_ne _ _ (show (396 : Nat) ≠ 398 by decide), va_up_ne _ _ (show (396 : Nat) ≠ 397 by decide), va_up_self]
  have w396 : (3720 + 900 * r' 384 6).toInt = ((3720 + 900 * t : Nat) : Int) := by
    have m1 := i_mul (show (900 : Int32).toInt = 900 by decide) h6 (by omega) (by omega)
    have := i_add (show (3720 : Int32).toInt = 3720 by decide) m1 (by omega) (by omega)
    omega
  obtain ⟨I5, J5, f1, f2, f3, f4, f5, f6⟩ := ntk_v (J := J') (ri := r') (rj := mj) (rq := mq) (I := K) (p := 0) h3 (by rw [zz 388 (by decide) (by decide) (by decide) (by decide) (by decide) (by decide)]; exact mn) (by rw [z391]; exact k0) (Nat.zero_le _) (by rw [mT]; exact hb) (by rw [mT]; exact ht)
  rw [bv_n f1]
  have q : ∀ f, f ≠ 391 → f ≠ 392 → f ≠ 393 → f ≠ 394 → I5 f = K f := f5
  have hR : RST n T c v s e (stl (r' 400) (I' 401).toInt.toNat) 0 I5 J5 r' := ⟨⟨by rw [q 388 (by decide) (by decide) (by decide) (by decide), zz 388 (by decide) (by decide) (by decide) (by decide) (by decide) (by decide)]; exact mn, mT⟩, ⟨f2, f3, f4⟩, ⟨by rw [q 401 (by decide) (by decide) (by decide) (by decide), zz 401 (by decide) (by decide) (by decide) (by decide) (by decide) (by decide), stl_len]; omega, by rw [stl_len]⟩, by rw [q 402 (by decide) (by decide) (by decide) (by decide), z402]; exact k0⟩
  have z130 : I2 130 = I 130 := by rw [i6 130 (by decide) (by decide) (by decide) (by decide), va_up_ne _ _ (show (130 : Nat) ≠ 197 by decide), va_up_ne _ _ (show (130 : Nat) ≠ 132 by decide)]
  rw [← z130]
  exact text_L h3 hb (by omega) _ _ 0 I2 r I5 J5 r' _ 0 c v s e 0 (Nat.lt_succ_self _) k0 (Nat.zero_le _) (by rw [k0]; omega) hp2 i2 i3 (by rw [i6 256 (by decide) (by decide) (by decide) (by decide), va_up_ne _ _ (show (256 : Nat) ≠ 197 by decide), va_up_ne _ _ (show (256 : Nat) ≠ 132 by decide), h256]; exact k0) rfl ht hR (by rw [q 397 (by decide) (by decide) (by decide) (by decide), z397]; exact k0) (by rw [q 399 (by decide) (by decide) (by decide) (by decide), z399]; exact cam_0) (by rw [q 396 (by decide) (by decide) (by decide) (by decide), z396]; exact w396)
end PR13
