/-! ===== pure: pieces of the reference's parser ===== -/
section PR5
variable {J : Nat → Int64} {ri : Nat → Nat → Int32} {rj : Nat → Nat → Int64} {rq : Nat → Nat → Option Nat}
/-! the reference's codes, two numbers each, and how many: what is emitted, as a list -/
def fmo (b : Int32) (s : Int32 × (Nat → Int32)) (p : Int32 × Int32) : Int32 × (Nat → Int32) := (s.1 + 1, upd (upd s.2 (b + 250 + 2 * s.1).toNatClampNeg p.1) (b + 250 + 2 * s.1 + 1).toNatClampNeg p.2)
def fmL (b : Int32) (s : Int32 × (Nat → Int32)) : List (Int32 × Int32) → Int32 × (Nat → Int32)
  | [] => s
  | p :: Y => fmL b (fmo b s p) Y
def FS (I : Nat → Int32) (r : Nat → Nat → Int32) : Int32 × (Nat → Int32) := (I 398, r 384)
theorem fmL_app {b : Int32} : ∀ (X Y : List (Int32 × Int32)) (s : Int32 × (Nat → Int32)), fmL b s (X ++ Y) = fmL b (fmL b s X) Y
  | [], _, _ => rfl
  | p :: X, Y, s => fmL_app X Y (fmo b s p)
theorem FS_I {I : Nat → Int32} {r : Nat → Nat → Int32} {f : Nat} {v : Int32} (h : 398 ≠ f) : FS (va_up I f v) r = FS I r := by
  unfold FS
  rw [va_up_ne _ _ h]
theorem FS_eq {I I' : Nat → Int32} {r r' : Nat → Nat → Int32} (h1 : I' 398 = I 398) (h2 : r' 384 = r 384) : FS I' r' = FS I r := by
  unfold FS
  rw [h1, h2]
theorem emit_m {a b : Int32} {I : Nat → Int32} : ∃ (I' : Nat → Int32) (r' : Nat → Nat → Int32), g_X12_emit a b I J ri rj rq = (I', J, r', rj, rq) ∧ (∀ f, f ≠ 398 → I' f = I f) ∧ (∀ t, t ≠ 384 → r' t = ri t) ∧ FS I' r' = fmo (I 396) (FS I ri) (a, b) := by
  rw [g_X12_emit_e]
  try simp only [↓ap1_n]
  refine ⟨_, _, rfl, fun f hf => va_up_ne _ _ hf, fun t ht => by rw [va_up_ne _ _ ht, va_up_ne _ _ ht], ?_⟩
  unfold FS
  rw [va_up_self, va_up_self, va_up_self]
  rfl
theorem push_m {a : Int32} {I : Nat → Int32} {w : Nat} (hw : (I 401).toInt = (w : Int)) : g_X12_push a I J ri rj rq = (va_up I 401 (I 401 + 1), J, va_up ri 400 (upd (ri 400) w a), rj, rq) := by
  rw [g_X12_push_e]
  try simp only [↓ap1_n]
  rw [at_n hw]
/-! whole -/
def popW : List Int32 → List Int32
  | [] => []
  | x :: L => if x = 2 then popW L else x :: L
def cntW : List Int32 → Nat
  | [] => 0
  | x :: L => if x = 2 then 1 + cntW L else 0
theorem whole_L {w0 : Nat} : ∀ (m : Nat) (I : Nat → Int32) (r : Nat → Nat → Int32) (w : Nat), (I 401).toInt = (w : Int) → w < m → w ≤ 1000 → (cntW (stl (r 400) w) : Int) ≤ (I 402).toInt → (I 402).toInt ≤ 100 → ∃ (I' : Nat → Int32) (r' : Nat → Nat → Int32) (w' : Nat), g_X12_whole_L5 J rj rq m I r = (I', J, r', rj, rq) ∧ (I' 401).toInt = (w' : Int) ∧ stl (r 400) w' = popW (stl (r 400) w) ∧ (I' 402).toInt = (I 402).toInt - cntW (stl (r 400) w) ∧ (∀ f, f ≠ 398 → f ≠ 401 → f ≠ 402 → I' f = I f) ∧ (∀ t, t ≠ 384 → r' t = r t) ∧ FS I' r' = fmL (I 396) (FS I r) (List.replicate (cntW (stl (r 400) w)) (2, 0)) := by
  intro m
  induction m with
  | zero => intro I r w _ h; exact absurd h (Nat.not_lt_zero _)
  | succ m ih =>
    intro I r w hw hm hw3 hn h1
    rw [g_X12_whole_L5_e]
    try simp only [↓ap1_n]
    have k0 : (0 : Int32).toInt = ((0 : Nat) : Int) := by decide
    cases w with
    | zero =>
      rw [if_pos ((le_n hw k0).mpr (Nat.le_refl _))]
      exact ⟨I, r, 0, rfl, hw, rfl, by show _ = _ - ((0 : Nat) : Int); omega, fun _ _ _ _ => rfl, fun _ _ => rfl, rfl⟩
    | succ w =>
      rw [if_neg (show ¬ I 401 ≤ 0 from fun q => by have := (le_n hw k0).mp q; omega)]
      have y1 : (I 401 - 1).toInt = (w : Int) := by
        have := i_sub (x := I 401) (y := 1) rfl (show (1 : Int32).toInt = 1 by decide) (by omega) (by omega)
        omega
      have es : stl (r 400) (w + 1) = r 400 w :: stl (r 400) w := rfl
      rw [at_n y1]
      rw [es] at hn ⊢
      by_cases d : r 400 w = 2
      · have hc : cntW (r 400 w :: stl (r 400) w) = 1 + cntW (stl (r 400) w) := if_pos d
        have hp : popW (r 400 w :: stl (r 400) w) = popW (stl (r 400) w) := if_pos d
        rw [if_pos d, hc, hp]
        rw [hc] at hn
        have w2 : va_up I 401 (I 401 - 1) 402 = I 402 := va_up_ne _ _ (by decide)
        rw [w2]
        have y2 : (I 402 - 1).toInt = (I 402).toInt - 1 := i_sub rfl (show (1 : Int32).toInt = 1 by decide) (by omega) (by omega)
        obtain ⟨I4, r4, e1, e2, e3, e4⟩ := emit_m (J := J) (ri := r) (rj := rj) (rq := rq) (a := 2) (b := 0) (I := va_up (va_up I 401 (I 401 - 1)) 402 (I 402 - 1))
        rw [bv_n e1]
        rw [FS_I (by decide), FS_I (by decide), va_up_ne _ _ (show (396 : Nat) ≠ 402 by decide), va_up_ne _ _ (show (396 : Nat) ≠ 401 by decide)] at e4
        have h396 : I4 396 = I 396 := by rw [e2 396 (by decide), va_up_ne _ _ (show (396 : Nat) ≠ 402 by decide), va_up_ne _ _ (show (396 : Nat) ≠ 401 by decide)]
        have h1' : (I4 401).toInt = (w : Int) := by rw [e2 401 (by decide), va_up_ne _ _ (show (401 : Nat) ≠ 402 by decide), va_up_self]; exact y1
        have h2' : (I4 402).toInt = (I 402).toInt - 1 := by rw [e2 402 (by decide), va_up_self]; exact y2
        have r400 : r4 400 = r 400 := e3 400 (by decide)
        obtain ⟨I', r', w', i1, i2, i3, i4, i5, i6, i7⟩ := ih I4 r4 w h1' (by omega) (by omega) (by rw [r400, h2']; omega) (by omega)
        rw [r400] at i3 i4 i7
        rw [h396, e4] at i7
        refine ⟨I', r', w', i1, i2, i3, by omega, fun f f1 f2 f3 => ?_, fun t ht => (i6 t ht).trans (e3 t ht), ?_⟩
        · rw [i5 f f1 f2 f3, e2 f f1, va_up_ne _ _ f3, va_up_ne _ _ f2]
        · rw [Nat.add_comm 1, List.replicate_succ]
          exact i7
      · have hc : cntW (r 400 w :: stl (r 400) w) = 0 := if_neg d
        have hp : popW (r 400 w :: stl (r 400) w) = r 400 w :: stl (r 400) w := if_neg d
        rw [if_neg d, hc, hp]
        exact ⟨I, r, w + 1, rfl, hw, rfl, by omega, fun _ _ _ _ => rfl, fun _ _ => rfl, rfl⟩
theorem whole_v {I : Nat → Int32} {w : Nat} (hw : (I 401).toInt = (w : Int)) (hw3 : w ≤ 1000) (hn : (cntW (stl (ri 400) w) : Int) ≤ (I 402).toInt) (h1 : (I 402).toInt ≤ 100) : ∃ (I' : Nat → Int32) (r' : Nat → Nat → Int32) (w' : Nat), g_X12_whole I J ri rj rq = (I', J, r', rj, rq) ∧ (I' 401).toInt = (w' : Int) ∧ stl (r' 400) w' = popW (stl (ri 400) w) ∧ (I' 402).toInt = (I 402).toInt - cntW (stl (ri 400) w) ∧ I' 403 = 1 ∧ (∀ f, f ≠ 398 → f ≠ 401 → f ≠ 402 → f ≠ 403 → I' f = I f) ∧ (∀ t, t ≠ 384 → r' t = ri t) ∧ FS I' r' = fmL (I 396) (FS I ri) (List.replicate (cntW (stl (ri 400) w)) (2, 0)) := by
  rw [g_X12_whole_e]
  try simp only [↓ap1_n]
  have z1 : va_up I 403 1 401 = I 401 := va_up_ne _ _ (by decide)
  have z2 : va_up I 403 1 402 = I 402 := va_up_ne _ _ (by decide)
  rw [z1]
  obtain ⟨I', r', w', i1, i2, i3, i4, i5, i6, i7⟩ := whole_L (J := J) (rj := rj) (rq := rq) (w0 := 0) (((I 401).toInt - 0).toNat + 1) (va_up I 403 1) ri w (by rw [z1]; exact hw) (by omega) hw3 (by rw [z2]; exact hn) (by rw [z2]; exact h1)
  rw [z2] at i4
  rw [FS_I (by decide), va_up_ne _ _ (show (396 : Nat) ≠ 403 by decide)] at i7
  exact ⟨I', r', w', i1, i2, by rw [i6 400 (by decide)]; exact i3, i4, by rw [i5 403 (by decide) (by decide) (by decide), va_up_self], fun f f1 f2 f3 f4 => (i5 f f1 f2 f3).trans (va_up_ne _ _ f4), i6, i7⟩
/-! settle -/
def popM (a : Int32) : List Int32 → List Int32
  | [] => []
  | x :: L => if g_X12_isIn_x x a 6 = 0 then x :: L else popM a L
/-- what a settling emits -/
def popF (a : Int32) : List Int32 → List (Int32 × Int32)
  | [] => []
  | x :: L => if g_X12_isIn_x x a 6 = 0 then [] else (x, 0) :: popF a L
theorem setM_L {a : Int32} : ∀ (m : Nat) (I : Nat → Int32) (r : Nat → Nat → Int32) (w : Nat), (I 401).toInt = (w : Int) → w < m → w ≤ 1000 → ∃ (I' : Nat → Int32) (r' : Nat → Nat → Int32) (w' : Nat), g_X12_settle_L0 a J rj rq m I r = (I', J, r', rj, rq) ∧ (I' 401).toInt = (w' : Int) ∧ stl (r 400) w' = popM a (stl (r 400) w) ∧ (∀ f, f ≠ 398 → f ≠ 401 → I' f = I f) ∧ (∀ t, t ≠ 384 → r' t = r t) ∧ FS I' r' = fmL (I 396) (FS I r) (popF a (stl (r 400) w)) := by
  intro m
  induction m with
  | zero => intro I r w _ h; exact absurd h (Nat.not_lt_zero _)
  | succ m ih =>
    intro I r w hw hm hw3
    rw [g_X12_settle_L0_e]
    try simp only [↓ap1_n]
    have k0 : (0 : Int32).toInt = ((0 : Nat) : Int) := by decide
    cases w with
    | zero =>
      rw [if_pos ((le_n hw k0).mpr (Nat.le_refl _))]
      exact ⟨I, r, 0, rfl, hw, rfl, fun _ _ _ => rfl, fun _ _ => rfl, rfl⟩
    | succ w =>
      rw [if_neg (show ¬ I 401 ≤ 0 from fun q => by have := (le_n hw k0).mp q; omega)]
      have y1 : (I 401 - 1).toInt = (w : Int) := by
        have := i_sub (x := I 401) (y := 1) rfl (show (1 : Int32).toInt = 1 by decide) (by omega) (by omega)
        omega
      have es : stl (r 400) (w + 1) = r 400 w :: stl (r 400) w := rfl
      rw [at_n y1]
      rw [es]
      by_cases d : g_X12_isIn_x (r 400 w) a 6 = 0
      · have hp : popM a (r 400 w :: stl (r 400) w) = r 400 w :: stl (r 400) w := if_pos d
        have hf : popF a (r 400 w :: stl (r 400) w) = [] := if_pos d
        rw [if_pos d, hp, hf]
        exact ⟨I, r, w + 1, rfl, hw, rfl, fun _ _ _ => rfl, fun _ _ => rfl, rfl⟩
      · have hp : popM a (r 400 w :: stl (r 400) w) = popM a (stl (r 400) w) := if_neg d
        have hf : popF a (r 400 w :: stl (r 400) w) = (r 400 w, 0) :: popF a (stl (r 400) w) := if_neg d
        rw [if_neg d, hp, hf, va_up_self, at_n y1]
        obtain ⟨I4, r4, e1, e2, e3, e4⟩ := emit_m (J := J) (ri := r) (rj := rj) (rq := rq) (a := r 400 w) (b := 0) (I := va_up I 401 (I 401 - 1))
        rw [bv_n e1]
        have r400 : r4 400 = r 400 := e3 400 (by decide)
        obtain ⟨I', r', w', i1, i2, i3, i4, i5, i6⟩ := ih I4 r4 w (by rw [e2 401 (by decide), va_up_self]; exact y1) (by omega) (by omega)
        rw [r400] at i3 i6
        rw [FS_I (by decide), va_up_ne _ _ (show (396 : Nat) ≠ 401 by decide)] at e4
        rw [show I4 396 = I 396 by rw [e2 396 (by decide), va_up_ne _ _ (show (396 : Nat) ≠ 401 by decide)], e4] at i6
        exact ⟨I', r', w', i1, i2, i3, fun f f1 f2 => by rw [i4 f f1 f2, e2 f f1, va_up_ne _ _ f2], fun t ht => (i5 t ht).trans (e3 t ht), i6⟩
theorem setM_is {a : Int32} {I : Nat → Int32} {w : Nat} (hw : (I 401).toInt = (w : Int)) (hw3 : w ≤ 1000) : g_X12_settle a I J ri rj rq = g_X12_settle_L0 a J rj rq (w + 1) I ri := by
  rw [g_X12_settle_e, g_X12_settle_L0_e]
  try simp only [↓ap1_n]
  by_cases c : I 401 ≤ 0
  · rw [if_pos c, if_pos c]
  · rw [if_neg c, if_neg c]
    have w1 : 1 ≤ w := by
      have h9 : ¬ w ≤ 0 := fun y => c ((le_n hw (show (0 : Int32).toInt = ((0 : Nat) : Int) by decide)).mpr y)
      omega
    by_cases d : g_X12_isIn_x (ri 400 (I 401 - 1).toNatClampNeg) a 6 = 0
    · rw [if_pos d, if_pos d]
    · rw [if_neg d, if_neg d]
      obtain ⟨I3, r3, e1, e2, e3, -⟩ := emit_m (J := J) (rj := rj) (rq := rq) (ri := ri) (I := va_up I 401 (I 401 - 1)) (a := ri 400 (va_up I 401 (I 401 - 1) 401).toNatClampNeg) (b := 0)
      rw [bv_n e1, bv_n e1]
      have y1 : (I 401 - 1).toInt = (w : Int) - 1 := by
        have := i_sub (x := I 401) (y := 1) rfl (show (1 : Int32).toInt = 1 by decide) (by omega) (by omega)
        omega
      have h4 : (I3 401).toInt = (w : Int) - 1 := by rw [e2 401 (by decide), va_up_self]; exact y1
      rw [show ((I3 401).toInt - 0).toNat + 1 = w by omega]
theorem setM_v {a : Int32} {I : Nat → Int32} {w : Nat} (hw : (I 401).toInt = (w : Int)) (hw3 : w ≤ 1000) : ∃ (I' : Nat → Int32) (r' : Nat → Nat → Int32) (w' : Nat), g_X12_settle a I J ri rj rq = (I', J, r', rj, rq) ∧ (I' 401).toInt = (w' : Int) ∧ stl (r' 400) w' = popM a (stl (ri 400) w) ∧ (∀ f, f ≠ 398 → f ≠ 401 → I' f = I f) ∧ (∀ t, t ≠ 384 → r' t = ri t) ∧ FS I' r' = fmL (I 396) (FS I ri) (popF a (stl (ri 400) w)) := by
  rw [setM_is hw hw3]
  obtain ⟨I', r', w', i1, i2, i3, i4, i5, i6⟩ := setM_L (J := J) (rj := rj) (rq := rq) (a := a) (w + 1) I ri w hw (Nat.lt_succ_self _) hw3
  exact ⟨I', r', w', i1, i2, by rw [i5 400 (by decide)]; exact i3, i4, i5, i6⟩
/-! hasParen, goesOn -/
theorem stl_mem {r : Nat → Int32} {x : Int32} : ∀ n, x ∈ stl r n ↔ ∃ j, j < n ∧ r j = x
  | 0 => ⟨fun h => (by cases h), fun ⟨j, h, _⟩ => absurd h (Nat.not_lt_zero _)⟩
  | n + 1 => by
    show x ∈ r n :: stl r n ↔ _
    rw [List.mem_cons, stl_mem n]
    constructor
    · rintro (h | ⟨j, h1, h2⟩)
      · exact ⟨n, Nat.lt_succ_self _, h.symm⟩
      · exact ⟨j, by omega, h2⟩
    · intro ⟨j, h1, h2⟩
      by_cases q : j = n
      · subst q; exact Or.inl h2.symm
      · exact Or.inr ⟨j, by omega, h2⟩
theorem hasP_L {I : Nat → Int32} {w : Nat} (hw : (I 401).toInt = (w : Int)) (hw3 : w ≤ 160) : ∀ (m : Nat) (x : Int32) (k : Nat), x.toInt = (k : Int) → k ≤ w → 160 - k < m → ((∃ j, k ≤ j ∧ j < w ∧ ri 400 j = 40) → g_X12_hasParen_L2 I J ri rj rq m x = (1, I, J, ri, rj, rq)) ∧ ((¬ ∃ j, k ≤ j ∧ j < w ∧ ri 400 j = 40) → g_X12_hasParen_L2 I J ri rj rq m x = (0, I, J, ri, rj, rq)) := by
  intro m
  induction m with
  | zero => intro x k _ _ h; exact absurd h (Nat.not_lt_zero _)
  | succ m ih =>
    intro x k hx hk hm
    rw [g_X12_hasParen_L2_e]
    try simp only [↓ap1_n]
    by_cases c : I 401 ≤ x
    · have c1 := (le_n hw hx).mp c
      rw [if_pos c]
      exact ⟨fun ⟨j, j1, j2, _⟩ => absurd j2 (by omega), fun _ => rfl⟩
    · have c1 : ¬ w ≤ k := fun q => c ((le_n hw hx).mpr q)
      rw [if_neg c, at_n hx]
      by_cases d : ri 400 k = 40
      · rw [if_pos d]
        exact ⟨fun _ => rfl, fun h => absurd ⟨k, Nat.le_refl _, by omega, d⟩ h⟩
      · rw [if_neg d]
        obtain ⟨a1, a2⟩ := ih (x + Int32.ofInt 1) (k + 1) (up_i hx (by omega)) (by omega) (by omega)
        have iff : (∃ j, k ≤ j ∧ j < w ∧ ri 400 j = 40) ↔ ∃ j, k + 1 ≤ j ∧ j < w ∧ ri 400 j = 40 := by
          constructor
          · intro ⟨j, j1, j2, j3⟩
            by_cases q : j = k
            · rw [q] at j3; exact absurd j3 d
            · exact ⟨j, by omega, j2, j3⟩
          · intro ⟨j, j1, j2, j3⟩
            exact ⟨j, by omega, j2, j3⟩
        exact ⟨fun h => a1 (iff.mp h), fun h => a2 (fun y => h (iff.mpr y))⟩
theorem hasP_1 {I : Nat → Int32} {w : Nat} (hw : (I 401).toInt = (w : Int)) (hw3 : w ≤ 160) (h : (40 : Int32) ∈ stl (ri 400) w) : g_X12_hasParen I J ri rj rq = (1, I, J, ri, rj, rq) := by
  rw [g_X12_hasParen_e]
  obtain ⟨j, j1, j2⟩ := (stl_mem w).mp h
  exact (hasP_L hw hw3 _ 0 0 (by decide) (Nat.zero_le _) (by decide)).1 ⟨j, Nat.zero_le _, j1, j2⟩
theorem hasP_0 {I : Nat → Int32} {w : Nat} (hw : (I 401).toInt = (w : Int)) (hw3 : w ≤ 160) (h : ¬ (40 : Int32) ∈ stl (ri 400) w) : g_X12_hasParen I J ri rj rq = (0, I, J, ri, rj, rq) := by
  rw [g_X12_hasParen_e]
  exact (hasP_L hw hw3 _ 0 0 (by decide) (Nat.zero_le _) (by decide)).2 (fun ⟨j, _, j1, j2⟩ => h ((stl_mem w).mpr ⟨j, j1, j2⟩))
/-- it goes on behind a ONE -/
def goC (c : Int32) (L : List Int32) : Prop := c = 25 ∨ c = 26 ∨ c = 27 ∨ c = 28 ∨ (c = 30 ∧ (40 : Int32) ∈ L)
theorem goes_1 {I : Nat → Int32} {c v : Int32} {w : Nat} (hT : TKF I J c v) (hw : (I 401).toInt = (w : Int)) (hw3 : w ≤ 160) (h : goC c (stl (ri 400) w)) : g_X12_goesOn I J ri rj rq = (1, I, J, ri, rj, rq) := by
  obtain ⟨t0, t18, t33, s19, s20, s21, s22, s23, s24, s25, s26, s27, s28, s29, s30, s31, s32, t2, tv, tw⟩ := hT
  rw [g_X12_goesOn_e]
  try simp only [↓ap1_n]
  by_cases q1 : I 393 = 43
  · rw [if_pos q1]
  rw [if_neg q1]
  by_cases q2 : I 393 = 45
  · rw [if_pos q2]
  rw [if_neg q2]
  by_cases q3 : I 393 = 42
  · rw [if_pos q3]
  rw [if_neg q3]
  by_cases q4 : I 393 = 47
  · rw [if_pos q4]
  rw [if_neg q4]
  rcases h with y | y | y | y | ⟨y, z⟩
  · exact absurd (s25.mpr y) q1
  · exact absurd (s26.mpr y) q2
  · exact absurd (s27.mpr y) q3
  · exact absurd (s28.mpr y) q4
  · rw [if_pos (s30.mpr y), bn_n (hasP_1 hw hw3 z), if_neg (show ¬ (1 : Int32) = 0 by decide)]
theorem goes_0 {I : Nat → Int32} {c v : Int32} {w : Nat} (hT : TKF I J c v) (hw : (I 401).toInt = (w : Int)) (hw3 : w ≤ 160) (h : ¬ goC c (stl (ri 400) w)) : g_X12_goesOn I J ri rj rq = (0, I, J, ri, rj, rq) := by
  obtain ⟨t0, t18, t33, s19, s20, s21, s22, s23, s24, s25, s26, s27, s28, s29, s30, s31, s32, t2, tv, tw⟩ := hT
  rw [g_X12_goesOn_e]
  try simp only [↓ap1_n]
  rw [if_neg (fun q => h (Or.inl (s25.mp q))), if_neg (show ¬ I 393 = 45 from fun q => h (Or.inr (Or.inl (s26.mp q)))), if_neg (show ¬ I 393 = 42 from fun q => h (Or.inr (Or.inr (Or.inl (s27.mp q))))), if_neg (show ¬ I 393 = 47 from fun q => h (Or.inr (Or.inr (Or.inr (Or.inl (s28.mp q))))))]
  by_cases q : I 393 = 41
  · rw [if_pos q, bn_n (hasP_0 hw hw3 (fun y => h (Or.inr (Or.inr (Or.inr (Or.inr ⟨s30.mp q, y⟩)))))), if_pos (show (0 : Int32) = 0 from rfl)]
  · rw [if_neg q]
/-- the number of a NAME, -1 for others -/
def nmC (c : Int32) : Int32 := if c = 12 then 0 else if c = 13 then 1 else if c = 14 then 2 else if c = 15 then 3 else if c = 16 then 4 else if c = 17 then 5 else -1
theorem nmC_ge {c : Int32} (h : 12 ≤ c.toInt ∧ c.toInt ≤ 17) : ¬ nmC c < 0 := by
  have e : c = 12 ∨ c = 13 ∨ c = 14 ∨ c = 15 ∨ c = 16 ∨ c = 17 := by
    have k : ∀ x : Int32, c.toInt = x.toInt → c = x := fun x y => Int32.toInt_inj.mp y
    have d : c.toInt = 12 ∨ c.toInt = 13 ∨ c.toInt = 14 ∨ c.toInt = 15 ∨ c.toInt = 16 ∨ c.toInt = 17 := by omega
    rcases d with d | d | d | d | d | d
    · exact Or.inl (k 12 d)
    · exact Or.inr (Or.inl (k 13 d))
    · exact Or.inr (Or.inr (Or.inl (k 14 d)))
    · exact Or.inr (Or.inr (Or.inr (Or.inl (k 15 d))))
    · exact Or.inr (Or.inr (Or.inr (Or.inr (Or.inl (k 16 d)))))
    · exact Or.inr (Or.inr (Or.inr (Or.inr (Or.inr (k 17 d)))))
  rcases e with e | e | e | e | e | e <;> subst e <;> decide
theorem nmC_lt {c : Int32} (h : ¬ (12 ≤ c.toInt ∧ c.toInt ≤ 17)) : nmC c < 0 := by
  have k : ∀ x : Int32, 12 ≤ x.toInt ∧ x.toInt ≤ 17 → ¬ c = x := fun x y z => h (by rw [z]; exact y)
  unfold nmC
  rw [if_neg (k 12 (by decide)), if_neg (k 13 (by decide)), if_neg (k 14 (by decide)), if_neg (k 15 (by decide)), if_neg (k 16 (by decide)), if_neg (k 17 (by decide))]
  decide
/-- the number of a sort, 0 for others -/
def srC (c : Int32) : Int32 := if c = 0 then 1 else if c = 1 then 2 else if c = 2 then 3 else if c = 3 then 4 else if c = 4 then 5 else if c = 5 then 6 else if c = 6 then 7 else if c = 7 then 8 else if c = 8 then 9 else 0
theorem name_x {I : Nat → Int32} {c v : Int32} (hT : TKF I J c v) : g_X12_nameOf_x I J ri rj rq = (nmC c, I, J, ri, rj, rq) := by
  obtain ⟨t0, t18, t33, s19, s20, s21, s22, s23, s24, s25, s26, s27, s28, s29, s30, s31, s32, t2, tv, tw⟩ := hT
  unfold nmC
  rw [g_X12_nameOf_x_e]
  try simp only [↓ap1_n]
  by_cases q : I 393 = 2
  · obtain ⟨w0, w1, w2, w3, w4, w5, w6, w7, w8, w9, w10, w11, w12, w13, w14, w15, w16, w17⟩ := tw q
    rw [if_pos q]
    have e12 : lg_cmp (J 395) (g_X12_w3_x 97 103 101) = 0 ↔ c = 12 := by
      rw [cmpN, show g_X12_w3_x 97 103 101 = lN 6383461 from by decide +kernel]
      exact w12
    have e13 : lg_cmp (J 395) (g_X12_w3_x 107 105 110) = 0 ↔ c = 13 := by
      rw [cmpN, show g_X12_w3_x 107 105 110 = lN 7039342 from by decide +kernel]
      exact w13
    have e14 : lg_cmp (J 395) (g_X12_w5_x 99 114 97 102 116) = 0 ↔ c = 14 := by
      rw [cmpN, show g_X12_w5_x 99 114 97 102 116 = lN 427120748148 from by decide +kernel]
      exact w14
    have e15 : lg_cmp (J 395) (g_X12_w5_x 112 108 97 99 101) = 0 ↔ c = 15 := by
      rw [cmpN, show g_X12_w5_x 112 108 97 99 101 = lN 482854658917 from by decide +kernel]
      exact w15
    have e16 : lg_cmp (J 395) (g_X12_w5_x 109 111 110 116 104) = 0 ↔ c = 16 := by
      rw [cmpN, show g_X12_w5_x 109 111 110 116 104 = lN 470020945000 from by decide +kernel]
      exact w16
    have e17 : lg_cmp (J 395) (g_X12_w5_x 117 110 100 101 114) = 0 ↔ c = 17 := by
      rw [cmpN, show g_X12_w5_x 117 110 100 101 114 = lN 504363246962 from by decide +kernel]
      exact w17
    by_cases y12 : c = 12
    · rw [if_pos (e12.mpr y12), if_pos y12]
    rw [if_neg (fun z => y12 (e12.mp z)), if_neg y12]
    by_cases y13 : c = 13
    · rw [if_pos (e13.mpr y13), if_pos y13]
    rw [if_neg (fun z => y13 (e13.mp z)), if_neg y13]
    by_cases y14 : c = 14
    · rw [if_pos (e14.mpr y14), if_pos y14]
    rw [if_neg (fun z => y14 (e14.mp z)), if_neg y14]
    by_cases y15 : c = 15
    · rw [if_pos (e15.mpr y15), if_pos y15]
    rw [if_neg (fun z => y15 (e15.mp z)), if_neg y15]
    by_cases y16 : c = 16
    · rw [if_pos (e16.mpr y16), if_pos y16]
    rw [if_neg (fun z => y16 (e16.mp z)), if_neg y16]
    by_cases y17 : c = 17
    · rw [if_pos (e17.mpr y17), if_pos y17]
    rw [if_neg (fun z => y17 (e17.mp z)), if_neg y17]
  · have nc : ∀ k : Int32, 0 ≤ k.toInt → k.toInt ≤ 17 → ¬ c = k := fun k k1 k2 y => q (t2.mpr (Or.inl ⟨by rw [y]; exact k1, by rw [y]; exact k2⟩))
    rw [if_neg q, if_neg (nc 12 (by decide) (by decide)), if_neg (nc 13 (by decide) (by decide)), if_neg (nc 14 (by decide) (by decide)), if_neg (nc 15 (by decide) (by decide)), if_neg (nc 16 (by decide) (by decide)), if_neg (nc 17 (by decide) (by decide))]
theorem name_d {I : Nat → Int32} {c v : Int32} (hT : TKF I J c v) : g_X12_nameOf_d I J ri rj rq = (nmC c, I, J, ri, rj, rq) := by
  obtain ⟨t0, t18, t33, s19, s20, s21, s22, s23, s24, s25, s26, s27, s28, s29, s30, s31, s32, t2, tv, tw⟩ := hT
  unfold nmC
  rw [g_X12_nameOf_d_e]
  try simp only [↓ap1_n]
  by_cases q : I 393 = 2
  · obtain ⟨w0, w1, w2, w3, w4, w5, w6, w7, w8, w9, w10, w11, w12, w13, w14, w15, w16, w17⟩ := tw q
    rw [if_pos q]
    have e12 : lg_cmp (J 395) (g_X12_w3_d 97 103 101) = 0 ↔ c = 12 := by
      rw [cmpN, show g_X12_w3_d 97 103 101 = lN 6383461 from by decide +kernel]
      exact w12
    have e13 : lg_cmp (J 395) (g_X12_w3_d 107 105 110) = 0 ↔ c = 13 := by
      rw [cmpN, show g_X12_w3_d 107 105 110 = lN 7039342 from by decide +kernel]
      exact w13
    have e14 : lg_cmp (J 395) (g_X12_w5_d 99 114 97 102 116) = 0 ↔ c = 14 := by
      rw [cmpN, show g_X12_w5_d 99 114 97 102 116 = lN 427120748148 from by decide +kernel]
      exact w14
    have e15 : lg_cmp (J 395) (g_X12_w5_d 112 108 97 99 101) = 0 ↔ c = 15 := by
      rw [cmpN, show g_X12_w5_d 112 108 97 99 101 = lN 482854658917 from by decide +kernel]
      exact w15
    have e16 : lg_cmp (J 395) (g_X12_w5_d 109 111 110 116 104) = 0 ↔ c = 16 := by
      rw [cmpN, show g_X12_w5_d 109 111 110 116 104 = lN 470020945000 from by decide +kernel]
      exact w16
    have e17 : lg_cmp (J 395) (g_X12_w5_d 117 110 100 101 114) = 0 ↔ c = 17 := by
      rw [cmpN, show g_X12_w5_d 117 110 100 101 114 = lN 504363246962 from by decide +kernel]
      exact w17
    by_cases y12 : c = 12
    · rw [if_pos (e12.mpr y12), if_pos y12]
    rw [if_neg (fun z => y12 (e12.mp z)), if_neg y12]
    by_cases y13 : c = 13
    · rw [if_pos (e13.mpr y13), if_pos y13]
    rw [if_neg (fun z => y13 (e13.mp z)), if_neg y13]
    by_cases y14 : c = 14
    · rw [if_pos (e14.mpr y14), if_pos y14]
    rw [if_neg (fun z => y14 (e14.mp z)), if_neg y14]
    by_cases y15 : c = 15
    · rw [if_pos (e15.mpr y15), if_pos y15]
    rw [if_neg (fun z => y15 (e15.mp z)), if_neg y15]
    by_cases y16 : c = 16
    · rw [if_pos (e16.mpr y16), if_pos y16]
    rw [if_neg (fun z => y16 (e16.mp z)), if_neg y16]
    by_cases y17 : c = 17
    · rw [if_pos (e17.mpr y17), if_pos y17]
    rw [if_neg (fun z => y17 (e17.mp z)), if_neg y17]
  · have nc : ∀ k : Int32, 0 ≤ k.toInt → k.toInt ≤ 17 → ¬ c = k := fun k k1 k2 y => q (t2.mpr (Or.inl ⟨by rw [y]; exact k1, by rw [y]; exact k2⟩))
    rw [if_neg q, if_neg (nc 12 (by decide) (by decide)), if_neg (nc 13 (by decide) (by decide)), if_neg (nc 14 (by decide) (by decide)), if_neg (nc 15 (by decide) (by decide)), if_neg (nc 16 (by decide) (by decide)), if_neg (nc 17 (by decide) (by decide))]
theorem sort_m {I : Nat → Int32} {c v : Int32} (hT : TKF I J c v) : g_X12_sortOf I J ri rj rq = (srC c, I, J, ri, rj, rq) := by
  obtain ⟨t0, t18, t33, s19, s20, s21, s22, s23, s24, s25, s26, s27, s28, s29, s30, s31, s32, t2, tv, tw⟩ := hT
  unfold srC
  rw [g_X12_sortOf_e]
  try simp only [↓ap1_n]
  by_cases q : I 393 = 2
  · obtain ⟨w0, w1, w2, w3, w4, w5, w6, w7, w8, w9, w10, w11, w12, w13, w14, w15, w16, w17⟩ := tw q
    rw [if_pos q]
    have e0 : lg_cmp (J 395) (g_X12_w5_d 108 97 115 116 115) = 0 ↔ c = 0 := by
      rw [cmpN, show g_X12_w5_d 108 97 115 116 115 = lN 465491424371 from by decide +kernel]
      exact w0
    have e1 : lg_cmp (J 395) (g_X12_w6_x 112 101 111 112 108 101) = 0 ↔ c = 1 := by
      rw [cmpN, show g_X12_w6_x 112 101 111 112 108 101 = lN 123580963646565 from by decide +kernel]
      exact w1
    have e2 : lg_cmp (J 395) (g_X12_w3_d 109 97 121) = 0 ↔ c = 2 := by
      rw [cmpN, show g_X12_w3_d 109 97 121 = lN 7168377 from by decide +kernel]
      exact w2
    have e3 : lg_cmp (J 395) (g_X12_w4_d 118 111 116 101) = 0 ↔ c = 3 := by
      rw [cmpN, show g_X12_w4_d 118 111 116 101 = lN 1987015781 from by decide +kernel]
      exact w3
    have e4 : lg_cmp (J 395) (g_X12_w5_d 111 114 100 101 114) = 0 ↔ c = 4 := by
      rw [cmpN, show g_X12_w5_d 111 114 100 101 114 = lN 478660552050 from by decide +kernel]
      exact w4
    have e5 : lg_cmp (J 395) (g_X12_w4_d 104 101 105 114) = 0 ↔ c = 5 := by
      rw [cmpN, show g_X12_w4_d 104 101 105 114 = lN 1751476594 from by decide +kernel]
      exact w5
    have e6 : lg_cmp (J 395) (g_X12_w6_x 99 111 117 110 99 105 <<< ((8 : Int32).toInt64 &&& 63) ||| 108) = 0 ↔ c = 6 := by
      rw [cmpN, show g_X12_w6_x 99 111 117 110 99 105 <<< ((8 : Int32).toInt64 &&& 63) ||| 108 = lN 27988572848220524 from by decide +kernel]
      exact w6
    have e7 : lg_cmp (J 395) (g_X12_w3_d 102 105 120) = 0 ↔ c = 7 := by
      rw [cmpN, show g_X12_w3_d 102 105 120 = lN 6711672 from by decide +kernel]
      exact w7
    have e8 : lg_cmp (J 395) (g_X12_w5_d 108 101 97 118 101) = 0 ↔ c = 8 := by
      rw [cmpN, show g_X12_w5_d 108 101 97 118 101 = lN 465557354085 from by decide +kernel]
      exact w8
    by_cases y0 : c = 0
    · rw [if_pos (e0.mpr y0), if_pos y0]
    rw [if_neg (fun z => y0 (e0.mp z)), if_neg y0]
    by_cases y1 : c = 1
    · rw [if_pos (e1.mpr y1), if_pos y1]
    rw [if_neg (fun z => y1 (e1.mp z)), if_neg y1]
    by_cases y2 : c = 2
    · rw [if_pos (e2.mpr y2), if_pos y2]
    rw [if_neg (fun z => y2 (e2.mp z)), if_neg y2]
    by_cases y3 : c = 3
    · rw [if_pos (e3.mpr y3), if_pos y3]
    rw [if_neg (fun z => y3 (e3.mp z)), if_neg y3]
    by_cases y4 : c = 4
    · rw [if_pos (e4.mpr y4), if_pos y4]
    rw [if_neg (fun z => y4 (e4.mp z)), if_neg y4]
    by_cases y5 : c = 5
    · rw [if_pos (e5.mpr y5), if_pos y5]
    rw [if_neg (fun z => y5 (e5.mp z)), if_neg y5]
    by_cases y6 : c = 6
    · rw [if_pos (e6.mpr y6), if_pos y6]
    rw [if_neg (fun z => y6 (e6.mp z)), if_neg y6]
    by_cases y7 : c = 7
    · rw [if_pos (e7.mpr y7), if_pos y7]
    rw [if_neg (fun z => y7 (e7.mp z)), if_neg y7]
    by_cases y8 : c = 8
    · rw [if_pos (e8.mpr y8), if_pos y8]
    rw [if_neg (fun z => y8 (e8.mp z)), if_neg y8]
  · have nc : ∀ k : Int32, 0 ≤ k.toInt → k.toInt ≤ 17 → ¬ c = k := fun k k1 k2 y => q (t2.mpr (Or.inl ⟨by rw [y]; exact k1, by rw [y]; exact k2⟩))
    rw [if_neg q, if_neg (nc 0 (by decide) (by decide)), if_neg (nc 1 (by decide) (by decide)), if_neg (nc 2 (by decide) (by decide)), if_neg (nc 3 (by decide) (by decide)), if_neg (nc 4 (by decide) (by decide)), if_neg (nc 5 (by decide) (by decide)), if_neg (nc 6 (by decide) (by decide)), if_neg (nc 7 (by decide) (by decide)), if_neg (nc 8 (by decide) (by decide))]
theorem word_not {I : Nat → Int32} {c v : Int32} (hT : TKF I J c v) : g_X12_isWord_x (g_X12_w3_x 110 111 116) I J ri rj rq = (if c = 11 then 1 else 0, I, J, ri, rj, rq) := by
  obtain ⟨t0, t18, t33, s19, s20, s21, s22, s23, s24, s25, s26, s27, s28, s29, s30, s31, s32, t2, tv, tw⟩ := hT
  rw [g_X12_isWord_x_e]
  try simp only [↓ap1_n]
  by_cases q : I 393 = 2
  · obtain ⟨w0, w1, w2, w3, w4, w5, w6, w7, w8, w9, w10, w11, w12, w13, w14, w15, w16, w17⟩ := tw q
    have e : lg_cmp (J 395) (g_X12_w3_x 110 111 116) = 0 ↔ c = 11 := by
      rw [cmpN, show g_X12_w3_x 110 111 116 = lN 7237492 from by decide +kernel]
      exact w11
    rw [if_pos q]
    by_cases y : c = 11
    · rw [if_pos (e.mpr y), if_pos y]
    · rw [if_neg (fun z => y (e.mp z)), if_neg y]
  · rw [if_neg q, if_neg (show ¬ c = 11 from fun y => q (t2.mpr (Or.inl ⟨by rw [y]; decide, by rw [y]; decide⟩)))]
theorem word_and {I : Nat → Int32} {c v : Int32} (hT : TKF I J c v) : g_X12_isWord_x (g_X12_w3_x 97 110 100) I J ri rj rq = (if c = 10 then 1 else 0, I, J, ri, rj, rq) := by
  obtain ⟨t0, t18, t33, s19, s20, s21, s22, s23, s24, s25, s26, s27, s28, s29, s30, s31, s32, t2, tv, tw⟩ := hT
  rw [g_X12_isWord_x_e]
  try simp only [↓ap1_n]
  by_cases q : I 393 = 2
  · obtain ⟨w0, w1, w2, w3, w4, w5, w6, w7, w8, w9, w10, w11, w12, w13, w14, w15, w16, w17⟩ := tw q
    have e : lg_cmp (J 395) (g_X12_w3_x 97 110 100) = 0 ↔ c = 10 := by
      rw [cmpN, show g_X12_w3_x 97 110 100 = lN 6385252 from by decide +kernel]
      exact w10
    rw [if_pos q]
    by_cases y : c = 10
    · rw [if_pos (e.mpr y), if_pos y]
    · rw [if_neg (fun z => y (e.mp z)), if_neg y]
  · rw [if_neg q, if_neg (show ¬ c = 10 from fun y => q (t2.mpr (Or.inl ⟨by rw [y]; decide, by rw [y]; decide⟩)))]
theorem word_or {I : Nat → Int32} {c v : Int32} (hT : TKF I J c v) : (I 393 = 2 ∧ lg_cmp (J 395) 28530 = 0) ↔ c = 9 := by
  obtain ⟨t0, t18, t33, s19, s20, s21, s22, s23, s24, s25, s26, s27, s28, s29, s30, s31, s32, t2, tv, tw⟩ := hT
  constructor
  · intro ⟨q, e⟩
    obtain ⟨w0, w1, w2, w3, w4, w5, w6, w7, w8, w9, w10, w11, w12, w13, w14, w15, w16, w17⟩ := tw q
    exact w9.mp ((cmpN _ _).mp e)
  · intro y
    have q : I 393 = 2 := t2.mpr (Or.inl ⟨by rw [y]; decide, by rw [y]; decide⟩)
    obtain ⟨w0, w1, w2, w3, w4, w5, w6, w7, w8, w9, w10, w11, w12, w13, w14, w15, w16, w17⟩ := tw q
    exact ⟨q, (cmpN _ _).mpr (w9.mpr y)⟩
/-- which comparison it is, -1 for others -/
def cmC (c : Int32) : Int32 := if c = 19 then 10 else if c = 20 then 11 else if c = 21 then 12 else if c = 22 then 13 else if c = 23 then 14 else if c = 24 then 15 else -1
theorem comp_m {I : Nat → Int32} {c v : Int32} (hT : TKF I J c v) : g_X12_compareOf I J ri rj rq = (cmC c, I, J, ri, rj, rq) := by
  obtain ⟨t0, t18, t33, s19, s20, s21, s22, s23, s24, s25, s26, s27, s28, s29, s30, s31, s32, t2, tv, tw⟩ := hT
  unfold cmC
  rw [g_X12_compareOf_e]
  try simp only [↓ap1_n]
  by_cases y19 : c = 19
  · rw [if_pos (s19.mpr y19), if_pos y19]
  rw [if_neg (show ¬ I 393 = 60 from fun z => y19 (s19.mp z)), if_neg y19]
  by_cases y20 : c = 20
  · rw [if_pos (s20.mpr y20), if_pos y20]
  rw [if_neg (show ¬ I 393 = 4 from fun z => y20 (s20.mp z)), if_neg y20]
  by_cases y21 : c = 21
  · rw [if_pos (s21.mpr y21), if_pos y21]
  rw [if_neg (show ¬ I 393 = 62 from fun z => y21 (s21.mp z)), if_neg y21]
  by_cases y22 : c = 22
  · rw [if_pos (s22.mpr y22), if_pos y22]
  rw [if_neg (show ¬ I 393 = 5 from fun z => y22 (s22.mp z)), if_neg y22]
  by_cases y23 : c = 23
  · rw [if_pos (s23.mpr y23), if_pos y23]
  rw [if_neg (show ¬ I 393 = 61 from fun z => y23 (s23.mp z)), if_neg y23]
  by_cases y24 : c = 24
  · rw [if_pos (s24.mpr y24), if_pos y24]
  rw [if_neg (show ¬ I 393 = 35 from fun z => y24 (s24.mp z)), if_neg y24]
end PR5
