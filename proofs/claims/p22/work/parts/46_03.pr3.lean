/-! ===== pure: what waits in the class's reader; one turn of it ===== -/
section PR3
/-- the first n of a row, the last first -/
def stl (r : Nat → Int32) : Nat → List Int32
  | 0 => []
  | n + 1 => r n :: stl r n
theorem stl_len (r : Nat → Int32) : ∀ n, (stl r n).length = n
  | 0 => rfl
  | n + 1 => by show (stl r n).length + 1 = n + 1; rw [stl_len r n]
theorem stl_up {r : Nat → Int32} {k : Nat} {v : Int32} : ∀ n, n ≤ k → stl (upd r k v) n = stl r n
  | 0, _ => rfl
  | n + 1, h => by
    show upd r k v n :: stl (upd r k v) n = r n :: stl r n
    rw [upd_n _ _ (by omega), stl_up n (by omega)]
theorem stl_push {r : Nat → Int32} {n : Nat} {v : Int32} : stl (upd r n v) (n + 1) = v :: stl r n := by
  show upd r n v n :: stl (upd r n v) n = v :: stl r n
  rw [upd_s, stl_up n (Nat.le_refl _)]
/-! the codes and how many: what is emitted, as a list -/
def em1 (s : Int32 × (Nat → Int32)) (a : Int32) : Int32 × (Nat → Int32) := if (300 : Int32) ≤ s.1 then s else (s.1 + 1, upd s.2 s.1.toNatClampNeg a)
def emL (s : Int32 × (Nat → Int32)) : List Int32 → Int32 × (Nat → Int32)
  | [] => s
  | a :: X => emL (em1 s a) X
def ES (I : Nat → Int32) (r : Nat → Nat → Int32) : Int32 × (Nat → Int32) := (I 132, r 259)
theorem emL_app : ∀ (X Y : List Int32) (s : Int32 × (Nat → Int32)), emL s (X ++ Y) = emL (emL s X) Y
  | [], _, _ => rfl
  | a :: X, Y, s => emL_app X Y (em1 s a)
theorem ES_I {I : Nat → Int32} {r : Nat → Nat → Int32} {f : Nat} {v : Int32} (h : 132 ≠ f) : ES (va_up I f v) r = ES I r := by
  unfold ES
  rw [va_up_ne _ _ h]
theorem ES_eq {I I' : Nat → Int32} {r r' : Nat → Nat → Int32} (h1 : I' 132 = I 132) (h2 : r' 259 = r 259) : ES I' r' = ES I r := by
  unfold ES
  rw [h1, h2]
/-- what a settling emits -/
def popE (a : Int32) : List Int32 → List Int32
  | [] => []
  | x :: L => if g_X4_rank x < a then [] else -x :: popE a L
variable {J : Nat → Int64} {ri : Nat → Nat → Int32} {rj : Nat → Nat → Int64} {rq : Nat → Nat → Option Nat}
theorem emit_c {a : Int32} {I : Nat → Int32} : ∃ (I' : Nat → Int32) (r' : Nat → Nat → Int32), g_X4_emit a I J ri rj rq = (I', J, r', rj, rq) ∧ (∀ f, f ≠ 132 → I' f = I f) ∧ (∀ t, t ≠ 259 → r' t = ri t) ∧ ES I' r' = em1 (ES I ri) a := by
  rw [g_X4_emit_e]
  try simp only [↓ap1_n]
  by_cases c : (300 : Int32) ≤ I 132
  · rw [if_pos c]
    refine ⟨I, ri, rfl, fun _ _ => rfl, fun _ _ => rfl, ?_⟩
    show ES I ri = if (300 : Int32) ≤ I 132 then ES I ri else _
    rw [if_pos c]
  · rw [if_neg c]
    refine ⟨_, _, rfl, fun f hf => va_up_ne _ _ hf, fun t ht => va_up_ne _ _ ht, ?_⟩
    show (va_up I 132 (I 132 + 1) 132, va_up ri 259 (upd (ri 259) (I 132).toNatClampNeg a) 259) = if (300 : Int32) ≤ I 132 then ES I ri else (I 132 + 1, upd (ri 259) (I 132).toNatClampNeg a)
    rw [if_neg c, va_up_self, va_up_self]
theorem refuse_c {a : Int32} {I : Nat → Int32} (h : I 129 = 0) : g_X4_refuse a I J ri rj rq = (va_up (va_up I 129 a) 130 (I 195), J, ri, rj, rq) := by
  rw [g_X4_refuse_e]
  try simp only [↓ap1_n]
  rw [if_pos h, va_up_ne _ _ (show (195 : Nat) ≠ 129 by decide)]
theorem refuse_1 {a : Int32} {I : Nat → Int32} : va_up (va_up I 129 a) 130 (I 195) 129 = a ∧ va_up (va_up I 129 a) 130 (I 195) 130 = I 195 := ⟨by rw [va_up_ne _ _ (show (129 : Nat) ≠ 130 by decide), va_up_self], va_up_self _ _ _⟩
theorem await_c {a : Int32} {I : Nat → Int32} {w : Nat} (hw : (I 134).toInt = (w : Int)) (h40 : w < 40) : g_X4_await a I J ri rj rq = (va_up I 134 (I 134 + 1), J, va_up ri 133 (upd (ri 133) w a), rj, rq) := by
  rw [g_X4_await_e]
  try simp only [↓ap1_n]
  rw [if_neg (show ¬ (40 : Int32) ≤ I 134 from fun q => by have := (le_n (show (40 : Int32).toInt = ((40 : Nat) : Int) by decide) hw).mp q; omega), at_n hw]
theorem await_f {a : Int32} {I : Nat → Int32} : ∃ (I' : Nat → Int32) (r' : Nat → Nat → Int32), g_X4_await a I J ri rj rq = (I', J, r', rj, rq) ∧ ∀ f, f ≠ 134 → I' f = I f := by
  rw [g_X4_await_e]
  try simp only [↓ap1_n]
  by_cases c : (40 : Int32) ≤ I 134
  · rw [if_pos c]; exact ⟨I, ri, rfl, fun _ _ => rfl⟩
  · rw [if_neg c]; exact ⟨_, _, rfl, fun f hf => va_up_ne _ _ hf⟩
/-! settle, on the list of what waits -/
def popR (a : Int32) : List Int32 → List Int32
  | [] => []
  | x :: L => if g_X4_rank x < a then x :: L else popR a L
def popN (a : Int32) : List Int32 → Nat
  | [] => 0
  | x :: L => if g_X4_rank x < a then 0 else (if x = 11 ∨ x = 35 then 1 else 0) + popN a L
theorem settle_fr {a : Int32} : ∀ (m : Nat) (I : Nat → Int32) (r : Nat → Nat → Int32), ∃ (I' : Nat → Int32) (r' : Nat → Nat → Int32), g_X4_settle_L0 a J rj rq m I r = (I', J, r', rj, rq) ∧ ∀ f, f ≠ 132 → f ≠ 134 → f ≠ 135 → I' f = I f
  | 0, I, r => ⟨I, r, rfl, fun _ _ _ _ => rfl⟩
  | m + 1, I, r => by
    rw [g_X4_settle_L0_e]
    try simp only [↓ap1_n]
    by_cases c : I 134 ≤ 0
    · rw [if_pos c]; exact ⟨I, r, rfl, fun _ _ _ _ => rfl⟩
    · rw [if_neg c]
      by_cases d : g_X4_rank (r 133 (I 134 - 1).toNatClampNeg) < a
      · rw [if_pos d]; exact ⟨I, r, rfl, fun _ _ _ _ => rfl⟩
      · rw [if_neg d]
        obtain ⟨I3, r3, e1, e2, e3, -⟩ := emit_c (J := J) (rj := rj) (rq := rq) (ri := r) (I := va_up I 134 (I 134 - 1)) (a := -r 133 (va_up I 134 (I 134 - 1) 134).toNatClampNeg)
        rw [bv_n e1]
        have fr : ∀ f, f ≠ 132 → f ≠ 134 → f ≠ 135 → I3 f = I f := fun f f1 f2 _ => (e2 f f1).trans (va_up_ne _ _ f2)
        by_cases q : r 133 (va_up I 134 (I 134 - 1) 134).toNatClampNeg = 11
        · rw [if_pos q]
          obtain ⟨I', r', i1, i2⟩ := settle_fr (a := a) m (va_up I3 135 (I3 135 - 1)) r3
          exact ⟨I', r', i1, fun f f1 f2 f3 => by rw [i2 f f1 f2 f3, va_up_ne _ _ f3]; exact fr f f1 f2 f3⟩
        · rw [if_neg q]
          by_cases q2 : r 133 (va_up I 134 (I 134 - 1) 134).toNatClampNeg = 35
          · rw [if_pos q2]
            obtain ⟨I', r', i1, i2⟩ := settle_fr (a := a) m (va_up I3 135 (I3 135 - 1)) r3
            exact ⟨I', r', i1, fun f f1 f2 f3 => by rw [i2 f f1 f2 f3, va_up_ne _ _ f3]; exact fr f f1 f2 f3⟩
          · rw [if_neg q2]
            obtain ⟨I', r', i1, i2⟩ := settle_fr (a := a) m I3 r3
            exact ⟨I', r', i1, fun f f1 f2 f3 => (i2 f f1 f2 f3).trans (fr f f1 f2 f3)⟩
theorem settle_L {a : Int32} : ∀ (m : Nat) (I : Nat → Int32) (r : Nat → Nat → Int32) (w : Nat), (I 134).toInt = (w : Int) → w < m → w ≤ 1000 → (popN a (stl (r 133) w) : Int) ≤ (I 135).toInt → (I 135).toInt ≤ 100 → ∃ (I' : Nat → Int32) (r' : Nat → Nat → Int32) (w' : Nat), g_X4_settle_L0 a J rj rq m I r = (I', J, r', rj, rq) ∧ (I' 134).toInt = (w' : Int) ∧ w' ≤ w ∧ stl (r 133) w' = popR a (stl (r 133) w) ∧ (I' 135).toInt = (I 135).toInt - popN a (stl (r 133) w) ∧ (∀ f, f ≠ 132 → f ≠ 134 → f ≠ 135 → I' f = I f) ∧ (∀ t, t ≠ 259 → r' t = r t) ∧ ES I' r' = emL (ES I r) (popE a (stl (r 133) w)) := by
  intro m
  induction m with
  | zero => intro I r w _ h; exact absurd h (Nat.not_lt_zero _)
  | succ m ih =>
    intro I r w hw hm hw3 hn h1
    rw [g_X4_settle_L0_e]
    try simp only [↓ap1_n]
    have k0 : (0 : Int32).toInt = ((0 : Nat) : Int) := by decide
    cases w with
    | zero =>
      rw [if_pos ((le_n hw k0).mpr (Nat.le_refl _))]
      exact ⟨I, r, 0, rfl, hw, Nat.le_refl _, rfl, by show _ = _ - ((0 : Nat) : Int); omega, fun _ _ _ _ => rfl, fun _ _ => rfl, rfl⟩
    | succ w =>
      rw [if_neg (show ¬ I 134 ≤ 0 from fun q => by have := (le_n hw k0).mp q; omega)]
      have y1 : (I 134 - 1).toInt = (w : Int) := by
        have := i_sub (x := I 134) (y := 1) rfl (show (1 : Int32).toInt = 1 by decide) (by omega) (by omega)
        omega
      have es : stl (r 133) (w + 1) = r 133 w :: stl (r 133) w := rfl
      rw [at_n y1]
      rw [es] at hn ⊢
      by_cases d : g_X4_rank (r 133 w) < a
      · rw [if_pos d]
        refine ⟨I, r, w + 1, rfl, hw, Nat.le_refl _, ?_, ?_, fun _ _ _ _ => rfl, fun _ _ => rfl, ?_⟩
        · show r 133 w :: stl (r 133) w = if g_X4_rank (r 133 w) < a then r 133 w :: stl (r 133) w else popR a (stl (r 133) w)
          rw [if_pos d]
        · show _ = _ - (((if g_X4_rank (r 133 w) < a then 0 else (if r 133 w = 11 ∨ r 133 w = 35 then 1 else 0) + popN a (stl (r 133) w)) : Nat) : Int)
          rw [if_pos d]; omega
        · show ES I r = emL (ES I r) (if g_X4_rank (r 133 w) < a then [] else -r 133 w :: popE a (stl (r 133) w))
          rw [if_pos d]
          rfl
      · have hE2 : popE a (r 133 w :: stl (r 133) w) = -r 133 w :: popE a (stl (r 133) w) := if_neg d
        have hn2 : popN a (r 133 w :: stl (r 133) w) = (if r 133 w = 11 ∨ r 133 w = 35 then 1 else 0) + popN a (stl (r 133) w) := if_neg d
        have hr2 : popR a (r 133 w :: stl (r 133) w) = popR a (stl (r 133) w) := if_neg d
        rw [if_neg d, hr2, hn2, hE2]
        rw [hn2] at hn
        rw [va_up_self, at_n y1]
        obtain ⟨I3, r3, e1, e2, e3, e4⟩ := emit_c (J := J) (rj := rj) (rq := rq) (ri := r) (I := va_up I 134 (I 134 - 1)) (a := -r 133 w)
        rw [bv_n e1]
        rw [ES_I (by decide)] at e4
        have hE3 : emL (ES I r) (-r 133 w :: popE a (stl (r 133) w)) = emL (ES I3 r3) (popE a (stl (r 133) w)) := by
          rw [e4]
          rfl
        have h134 : (I3 134).toInt = (w : Int) := by rw [e2 134 (by decide), va_up_self]; exact y1
        have h135 : I3 135 = I 135 := by rw [e2 135 (by decide), va_up_ne _ _ (show (135 : Nat) ≠ 134 by decide)]
        have r133 : r3 133 = r 133 := e3 133 (by decide)
        have fr : ∀ f, f ≠ 132 → f ≠ 134 → f ≠ 135 → I3 f = I f := fun f f1 f2 _ => (e2 f f1).trans (va_up_ne _ _ f2)
        have dec : 1 ≤ (I 135).toInt → (I3 135 - 1).toInt = (I 135).toInt - 1 := fun hx => by
          rw [h135]
          exact i_sub rfl (show (1 : Int32).toInt = 1 by decide) (by omega) (by omega)
        have go : (r 133 w = 11 ∨ r 133 w = 35) → ∃ (I' : Nat → Int32) (r' : Nat → Nat → Int32) (w' : Nat), g_X4_settle_L0 a J rj rq m (va_up I3 135 (I3 135 - 1)) r3 = (I', J, r', rj, rq) ∧ (I' 134).toInt = (w' : Int) ∧ w' ≤ w + 1 ∧ stl (r 133) w' = popR a (stl (r 133) w) ∧ (I' 135).toInt = (I 135).toInt - (((if r 133 w = 11 ∨ r 133 w = 35 then 1 else 0) + popN a (stl (r 133) w) : Nat) : Int) ∧ (∀ f, f ≠ 132 → f ≠ 134 → f ≠ 135 → I' f = I f) ∧ (∀ t, t ≠ 259 → r' t = r t) ∧ ES I' r' = emL (ES I r) (-r 133 w :: popE a (stl (r 133) w)) := fun hq => by
          rw [if_pos hq] at hn ⊢
          have dd := dec (by omega)
          obtain ⟨I', r', w', i1, i2, i3, i4, i5, i6, i7, i8⟩ := ih (va_up I3 135 (I3 135 - 1)) r3 w (by rw [va_up_ne _ _ (show (134 : Nat) ≠ 135 by decide)]; exact h134) (by omega) (by omega) (by rw [va_up_self, dd, r133]; omega) (by rw [va_up_self, dd]; omega)
          rw [r133] at i4 i5 i8
          rw [ES_I (by decide), ← hE3] at i8
          rw [va_up_self, dd] at i5
          exact ⟨I', r', w', i1, i2, by omega, i4, by omega, fun f f1 f2 f3 => by rw [i6 f f1 f2 f3, va_up_ne _ _ f3]; exact fr f f1 f2 f3, fun t ht => (i7 t ht).trans (e3 t ht), i8⟩
        by_cases q : r 133 w = 11
        · rw [if_pos q]; exact go (Or.inl q)
        · rw [if_neg q]
          by_cases q2 : r 133 w = 35
          · rw [if_pos q2]; exact go (Or.inr q2)
          · rw [if_neg q2]
            have nq : ¬ (r 133 w = 11 ∨ r 133 w = 35) := fun y => by rcases y with z | z; exact q z; exact q2 z
            rw [if_neg nq] at hn ⊢
            obtain ⟨I', r', w', i1, i2, i3, i4, i5, i6, i7, i8⟩ := ih I3 r3 w h134 (by omega) (by omega) (by rw [h135, r133]; omega) (by rw [h135]; exact h1)
            rw [r133] at i4 i5 i8
            rw [← hE3] at i8
            rw [h135] at i5
            exact ⟨I', r', w', i1, i2, by omega, i4, by omega, fun f f1 f2 f3 => (i6 f f1 f2 f3).trans (fr f f1 f2 f3), fun t ht => (i7 t ht).trans (e3 t ht), i8⟩
theorem settle_L2 {a : Int32} : ∀ (m : Nat) (I : Nat → Int32) (r : Nat → Nat → Int32), g_X4_settle_L0_2 a J rj rq m I r = g_X4_settle_L0 a J rj rq m I r
  | 0, _, _ => rfl
  | m + 1, I, r => by
    have h : g_X4_settle_L0_2 a J rj rq m = g_X4_settle_L0 a J rj rq m := funext fun _ => funext fun _ => settle_L2 m _ _
    rw [g_X4_settle_L0_2_e, g_X4_settle_L0_e, h]
theorem settle_L3 {a : Int32} : ∀ (m : Nat) (I : Nat → Int32) (r : Nat → Nat → Int32), g_X4_settle_L0_3 a J rj rq m I r = g_X4_settle_L0 a J rj rq m I r
  | 0, _, _ => rfl
  | m + 1, I, r => by
    have h : g_X4_settle_L0_3 a J rj rq m = g_X4_settle_L0 a J rj rq m := funext fun _ => funext fun _ => settle_L3 m _ _
    rw [g_X4_settle_L0_3_e, g_X4_settle_L0_e, h]
/-- settle is its loop -/
theorem settle_is {a : Int32} {I : Nat → Int32} {w : Nat} (hw : (I 134).toInt = (w : Int)) (hw3 : w ≤ 1000) : g_X4_settle a I J ri rj rq = g_X4_settle_L0 a J rj rq (w + 1) I ri := by
  rw [g_X4_settle_e, g_X4_settle_L0_e]
  try simp only [↓ap1_n, settle_L2, settle_L3]
  by_cases c : I 134 ≤ 0
  · rw [if_pos c, if_pos c]
  · rw [if_neg c, if_neg c]
    have w1 : 1 ≤ w := by
      have h9 : ¬ w ≤ 0 := fun y => c ((le_n hw (show (0 : Int32).toInt = ((0 : Nat) : Int) by decide)).mpr y)
      omega
    by_cases d : g_X4_rank (ri 133 (I 134 - 1).toNatClampNeg) < a
    · rw [if_pos d, if_pos d]
    · rw [if_neg d, if_neg d]
      obtain ⟨I3, r3, e1, e2, e3, -⟩ := emit_c (J := J) (rj := rj) (rq := rq) (ri := ri) (I := va_up I 134 (I 134 - 1)) (a := -ri 133 (va_up I 134 (I 134 - 1) 134).toNatClampNeg)
      rw [bv_n e1, bv_n e1]
      have y1 : (I 134 - 1).toInt = (w : Int) - 1 := by
        have := i_sub (x := I 134) (y := 1) rfl (show (1 : Int32).toInt = 1 by decide) (by omega) (by omega)
        omega
      have h134 : (I3 134).toInt = (w : Int) - 1 := by rw [e2 134 (by decide), va_up_self]; exact y1
      have fu : ((I3 134).toInt - 0).toNat + 1 = w := by omega
      have fu2 : ((va_up I3 135 (I3 135 - 1) 134).toInt - 0).toNat + 1 = w := by rw [va_up_ne _ _ (show (134 : Nat) ≠ 135 by decide)]; exact fu
      by_cases q : ri 133 (va_up I 134 (I 134 - 1) 134).toNatClampNeg = 11
      · rw [if_pos q, if_pos q, fu2]
      · rw [if_neg q, if_neg q]
        by_cases q2 : ri 133 (va_up I 134 (I 134 - 1) 134).toNatClampNeg = 35
        · rw [if_pos q2, if_pos q2, fu2]
        · rw [if_neg q2, if_neg q2, fu]
theorem settle_v {a : Int32} {I : Nat → Int32} {w : Nat} (hw : (I 134).toInt = (w : Int)) (hw3 : w ≤ 1000) (hn : (popN a (stl (ri 133) w) : Int) ≤ (I 135).toInt) (h1 : (I 135).toInt ≤ 100) : ∃ (I' : Nat → Int32) (r' : Nat → Nat → Int32) (w' : Nat), g_X4_settle a I J ri rj rq = (I', J, r', rj, rq) ∧ (I' 134).toInt = (w' : Int) ∧ w' ≤ w ∧ stl (r' 133) w' = popR a (stl (ri 133) w) ∧ (I' 135).toInt = (I 135).toInt - popN a (stl (ri 133) w) ∧ (∀ f, f ≠ 132 → f ≠ 134 → f ≠ 135 → I' f = I f) ∧ (∀ t, t ≠ 259 → r' t = ri t) ∧ ES I' r' = emL (ES I ri) (popE a (stl (ri 133) w)) := by
  rw [settle_is hw hw3]
  obtain ⟨I', r', w', i1, i2, i3, i4, i5, i6, i7, i8⟩ := settle_L (J := J) (rj := rj) (rq := rq) (a := a) (w + 1) I ri w hw (Nat.lt_succ_self _) hw3 hn h1
  exact ⟨I', r', w', i1, i2, i3, by rw [i7 133 (by decide)]; exact i4, i5, i6, i7, i8⟩
theorem settle_f {a : Int32} {I : Nat → Int32} : ∃ (I' : Nat → Int32) (r' : Nat → Nat → Int32), g_X4_settle a I J ri rj rq = (I', J, r', rj, rq) ∧ ∀ f, f ≠ 132 → f ≠ 134 → f ≠ 135 → I' f = I f := by
  rw [g_X4_settle_e]
  try simp only [↓ap1_n, settle_L2, settle_L3]
  by_cases c : I 134 ≤ 0
  · rw [if_pos c]; exact ⟨I, ri, rfl, fun _ _ _ _ => rfl⟩
  · rw [if_neg c]
    by_cases d : g_X4_rank (ri 133 (I 134 - 1).toNatClampNeg) < a
    · rw [if_pos d]; exact ⟨I, ri, rfl, fun _ _ _ _ => rfl⟩
    · rw [if_neg d]
      obtain ⟨I3, r3, e1, e2, e3, -⟩ := emit_c (J := J) (rj := rj) (rq := rq) (ri := ri) (I := va_up I 134 (I 134 - 1)) (a := -ri 133 (va_up I 134 (I 134 - 1) 134).toNatClampNeg)
      rw [bv_n e1]
      have fr : ∀ f, f ≠ 132 → f ≠ 134 → f ≠ 135 → I3 f = I f := fun f f1 f2 _ => (e2 f f1).trans (va_up_ne _ _ f2)
      have go : ∀ (m : Nat) (K : Nat → Int32), (∀ f, f ≠ 135 → K f = I3 f) → ∃ (I' : Nat → Int32) (r' : Nat → Nat → Int32), g_X4_settle_L0 a J rj rq m K r3 = (I', J, r', rj, rq) ∧ ∀ f, f ≠ 132 → f ≠ 134 → f ≠ 135 → I' f = I f := fun m K hK => by
        obtain ⟨I', r', i1, i2⟩ := settle_fr (J := J) (rj := rj) (rq := rq) (a := a) m K r3
        exact ⟨I', r', i1, fun f f1 f2 f3 => by rw [i2 f f1 f2 f3, hK f f3]; exact fr f f1 f2 f3⟩
      by_cases q : ri 133 (va_up I 134 (I 134 - 1) 134).toNatClampNeg = 11
      · rw [if_pos q]; exact go _ _ (fun f hf => va_up_ne _ _ hf)
      · rw [if_neg q]
        by_cases q2 : ri 133 (va_up I 134 (I 134 - 1) 134).toNatClampNeg = 35
        · rw [if_pos q2]; exact go _ _ (fun f hf => va_up_ne _ _ hf)
        · rw [if_neg q2]; exact go _ _ (fun _ _ => rfl)
/-! opening: ( not and - of one ONE -/
theorem open_v {t : Int32} {I : Nat → Int32} {w o : Nat} (ht : t = 29 ∨ t = 11 ∨ t = 35) (ho : (I 135).toInt = (o : Int)) (h8 : o < 8) (hw : (I 134).toInt = (w : Int)) (h40 : w < 40) : ∃ I' : Nat → Int32, g_X4_openUp t I J ri rj rq = (I', J, va_up ri 133 (upd (ri 133) w t), rj, rq) ∧ (I' 135).toInt = ((o + 1 : Nat) : Int) ∧ (I' 134).toInt = ((w + 1 : Nat) : Int) ∧ I' 136 = (if t = 29 then I 136 + 1 else I 136) ∧ I' 137 = (if t = 11 then 1 else 0) ∧ ∀ f, f ≠ 134 → f ≠ 135 → f ≠ 136 → f ≠ 137 → I' f = I f := by
  rw [g_X4_openUp_e]
  try simp only [↓ap1_n]
  rw [if_pos ((lt_n ho (show (8 : Int32).toInt = ((8 : Nat) : Int) by decide)).mpr h8)]
  have k5 := upN ho (by omega)
  rcases ht with q | q | q <;> subst q
  · rw [if_pos (show (29 : Int32) = 29 from rfl)]
    have e := await_c (J := J) (ri := ri) (rj := rj) (rq := rq) (a := 29) (I := va_up (va_up (va_up I 135 (I 135 + 1)) 136 (va_up I 135 (I 135 + 1) 136 + 1)) 137 0) (w := w) (by rw [va_up_ne _ _ (show (134 : Nat) ≠ 137 by decide), va_up_ne _ _ (show (134 : Nat) ≠ 136 by decide), va_up_ne _ _ (show (134 : Nat) ≠ 135 by decide)]; exact hw) h40
    rw [bv_n e]
    refine ⟨_, rfl, ?_, ?_, ?_, ?_, fun f f1 f2 f3 f4 => by rw [va_up_ne _ _ f1, va_up_ne _ _ f4, va_up_ne _ _ f3, va_up_ne _ _ f2]⟩
    · rw [va_up_ne _ _ (show (135 : Nat) ≠ 134 by decide), va_up_ne _ _ (show (135 : Nat) ≠ 137 by decide), va_up_ne _ _ (show (135 : Nat) ≠ 136 by decide), va_up_self]; exact k5
    · rw [va_up_self, va_up_ne _ _ (show (134 : Nat) ≠ 137 by decide), va_up_ne _ _ (show (134 : Nat) ≠ 136 by decide), va_up_ne _ _ (show (134 : Nat) ≠ 135 by decide)]; exact upN hw (by omega)
    · rw [va_up_ne _ _ (show (136 : Nat) ≠ 134 by decide), va_up_ne _ _ (show (136 : Nat) ≠ 137 by decide), va_up_self, va_up_ne _ _ (show (136 : Nat) ≠ 135 by decide), if_pos (show (29 : Int32) = 29 from rfl)]
    · rw [va_up_ne _ _ (show (137 : Nat) ≠ 134 by decide), va_up_self, if_neg (show ¬ (29 : Int32) = 11 by decide)]
  · rw [if_neg (show ¬ (11 : Int32) = 29 by decide), if_pos (show (11 : Int32) = 11 from rfl)]
    have e := await_c (J := J) (ri := ri) (rj := rj) (rq := rq) (a := 11) (I := va_up (va_up I 135 (I 135 + 1)) 137 1) (w := w) (by rw [va_up_ne _ _ (show (134 : Nat) ≠ 137 by decide), va_up_ne _ _ (show (134 : Nat) ≠ 135 by decide)]; exact hw) h40
    rw [bv_n e]
    refine ⟨_, rfl, ?_, ?_, ?_, ?_, fun f f1 f2 f3 f4 => by rw [va_up_ne _ _ f1, va_up_ne _ _ f4, va_up_ne _ _ f2]⟩
    · rw [va_up_ne _ _ (show (135 : Nat) ≠ 134 by decide), va_up_ne _ _ (show (135 : Nat) ≠ 137 by decide), va_up_self]; exact k5
    · rw [va_up_self, va_up_ne _ _ (show (134 : Nat) ≠ 137 by decide), va_up_ne _ _ (show (134 : Nat) ≠ 135 by decide)]; exact upN hw (by omega)
    · rw [va_up_ne _ _ (show (136 : Nat) ≠ 134 by decide), va_up_ne _ _ (show (136 : Nat) ≠ 137 by decide), va_up_ne _ _ (show (136 : Nat) ≠ 135 by decide), if_neg (show ¬ (11 : Int32) = 29 by decide)]
    · rw [va_up_ne _ _ (show (137 : Nat) ≠ 134 by decide), va_up_self, if_pos (show (11 : Int32) = 11 from rfl)]
  · rw [if_neg (show ¬ (35 : Int32) = 29 by decide), if_neg (show ¬ (35 : Int32) = 11 by decide)]
    have e := await_c (J := J) (ri := ri) (rj := rj) (rq := rq) (a := 35) (I := va_up (va_up I 135 (I 135 + 1)) 137 0) (w := w) (by rw [va_up_ne _ _ (show (134 : Nat) ≠ 137 by decide), va_up_ne _ _ (show (134 : Nat) ≠ 135 by decide)]; exact hw) h40
    rw [bv_n e]
    refine ⟨_, rfl, ?_, ?_, ?_, ?_, fun f f1 f2 f3 f4 => by rw [va_up_ne _ _ f1, va_up_ne _ _ f4, va_up_ne _ _ f2]⟩
    · rw [va_up_ne _ _ (show (135 : Nat) ≠ 134 by decide), va_up_ne _ _ (show (135 : Nat) ≠ 137 by decide), va_up_self]; exact k5
    · rw [va_up_self, va_up_ne _ _ (show (134 : Nat) ≠ 137 by decide), va_up_ne _ _ (show (134 : Nat) ≠ 135 by decide)]; exact upN hw (by omega)
    · rw [va_up_ne _ _ (show (136 : Nat) ≠ 134 by decide), va_up_ne _ _ (show (136 : Nat) ≠ 137 by decide), va_up_ne _ _ (show (136 : Nat) ≠ 135 by decide), if_neg (show ¬ (35 : Int32) = 29 by decide)]
    · rw [va_up_ne _ _ (show (137 : Nat) ≠ 134 by decide), va_up_self, if_neg (show ¬ (35 : Int32) = 11 by decide)]
/-- a fault was told at the TOKEN's first byte -/
def FLT (f : Int32) (I I' : Nat → Int32) : Prop := I' 129 = f ∧ I' 130 = I 195
theorem open_f {t : Int32} {I : Nat → Int32} (h0 : I 129 = 0) (h8 : ¬ (I 135).toInt < 8) : ∃ (I' : Nat → Int32) (r' : Nat → Nat → Int32), g_X4_openUp t I J ri rj rq = (I', J, r', rj, rq) ∧ FLT 3 I I' := by
  rw [g_X4_openUp_e]
  try simp only [↓ap1_n]
  rw [if_neg (show ¬ I 135 < 8 from fun q => h8 (by have := Int32.lt_iff_toInt_lt.mp q; have k8 : (8 : Int32).toInt = 8 := by decide
                                                    omega)), bv_n (refuse_c h0)]
  try simp only [↓ap1_n]
  have fin : ∀ (a : Int32) (K : Nat → Int32), K 129 = 3 → K 130 = I 195 → ∃ (I' : Nat → Int32) (r' : Nat → Nat → Int32), (bnV (g_X4_await a K J ri rj rq) fun (I4 : Nat → Int32) (_ : Nat → Int64) (r4 : Nat → Nat → Int32) (_ : Nat → Nat → Int64) (_ : Nat → Nat → Option Nat) => ((I4, J, r4, rj, rq) : vM)) = (I', J, r', rj, rq) ∧ FLT 3 I I' := fun a K k1 k2 => by
    obtain ⟨I', r', e1, e2⟩ := await_f (J := J) (ri := ri) (rj := rj) (rq := rq) (a := a) (I := K)
    rw [bv_n e1]
    exact ⟨I', r', rfl, (e2 129 (by decide)).trans k1, (e2 130 (by decide)).trans k2⟩
  have r1 := refuse_1 (a := 3) (I := I)
  generalize va_up (va_up I 129 3) 130 (I 195) = K at r1 ⊢
  by_cases q : t = 29
  · rw [if_pos q]
    exact fin _ _ (by rw [va_up_ne _ _ (show (129 : Nat) ≠ 137 by decide), va_up_ne _ _ (show (129 : Nat) ≠ 136 by decide), va_up_ne _ _ (show (129 : Nat) ≠ 135 by decide)]; exact r1.1) (by rw [va_up_ne _ _ (show (130 : Nat) ≠ 137 by decide), va_up_ne _ _ (show (130 : Nat) ≠ 136 by decide), va_up_ne _ _ (show (130 : Nat) ≠ 135 by decide)]; exact r1.2)
  · rw [if_neg q]
    by_cases q2 : t = 11
    · rw [if_pos q2]
      exact fin _ _ (by rw [va_up_ne _ _ (show (129 : Nat) ≠ 137 by decide), va_up_ne _ _ (show (129 : Nat) ≠ 135 by decide)]; exact r1.1) (by rw [va_up_ne _ _ (show (130 : Nat) ≠ 137 by decide), va_up_ne _ _ (show (130 : Nat) ≠ 135 by decide)]; exact r1.2)
    · rw [if_neg q2]
      exact fin _ _ (by rw [va_up_ne _ _ (show (129 : Nat) ≠ 137 by decide), va_up_ne _ _ (show (129 : Nat) ≠ 135 by decide)]; exact r1.1) (by rw [va_up_ne _ _ (show (130 : Nat) ≠ 137 by decide), va_up_ne _ _ (show (130 : Nat) ≠ 135 by decide)]; exact r1.2)
/-! a TOKEN where a ONE is due -/
theorem isN_v {c : Int32} : g_X4_isName c = if 12 ≤ c.toInt ∧ c.toInt ≤ 17 then 1 else 0 := by
  have k1 : (12 : Int32).toInt = 12 := by decide
  have k2 : (17 : Int32).toInt = 17 := by decide
  rw [g_X4_isName_e]
  by_cases a : c < 12
  · have a1 := Int32.lt_iff_toInt_lt.mp a
    rw [if_pos a, if_neg (show ¬ (12 ≤ c.toInt ∧ c.toInt ≤ 17) by omega)]
  · have a1 := Int32.le_iff_toInt_le.mp (Int32.not_lt.mp a)
    rw [if_neg a]
    by_cases b : 17 < c
    · have b1 := Int32.lt_iff_toInt_lt.mp b
      rw [if_pos b, if_neg (show ¬ (12 ≤ c.toInt ∧ c.toInt ≤ 17) by omega)]
    · have b1 := Int32.le_iff_toInt_le.mp (Int32.not_lt.mp b)
      rw [if_neg b, if_pos (show 12 ≤ c.toInt ∧ c.toInt ≤ 17 by omega)]
theorem ro_num {I : Nat → Int32} (hc : I 194 = 18) (hv : (I 196).toInt ≤ 9999) : ∃ (I' : Nat → Int32) (r' : Nat → Nat → Int32), g_X4_readOne I J ri rj rq = (0, I', J, r', rj, rq) ∧ (∀ f, f ≠ 132 → I' f = I f) ∧ (∀ t, t ≠ 259 → r' t = ri t) ∧ ES I' r' = emL (ES I ri) [I 196] := by
  have k9 : (9999 : Int32).toInt = 9999 := by decide
  rw [g_X4_readOne_e]
  try simp only [↓ap1_n]
  rw [if_pos hc, if_pos (show I 196 ≤ 9999 from Int32.le_iff_toInt_le.mpr (by omega))]
  obtain ⟨I', r', e1, e2, e3, e4⟩ := emit_c (J := J) (ri := ri) (rj := rj) (rq := rq) (a := I 196) (I := I)
  rw [bv_n e1]
  exact ⟨I', r', rfl, e2, e3, e4⟩
theorem ro_big {I : Nat → Int32} (h0 : I 129 = 0) (hc : I 194 = 18) (hv : 9999 < (I 196).toInt) : ∃ (I' : Nat → Int32) (r' : Nat → Nat → Int32), g_X4_readOne I J ri rj rq = (0, I', J, r', rj, rq) ∧ FLT 2 I I' := by
  have k9 : (9999 : Int32).toInt = 9999 := by decide
  rw [g_X4_readOne_e]
  try simp only [↓ap1_n]
  rw [if_pos hc, if_neg (show ¬ I 196 ≤ 9999 from fun q => by have := Int32.le_iff_toInt_le.mp q; omega), bv_n (refuse_c h0)]
  try simp only [↓ap1_n]
  obtain ⟨I', r', e1, e2, e3, -⟩ := emit_c (J := J) (ri := ri) (rj := rj) (rq := rq) (a := va_up (va_up I 129 2) 130 (I 195) 196) (I := va_up (va_up I 129 2) 130 (I 195))
  rw [bv_n e1]
  exact ⟨I', r', rfl, by rw [e2 129 (by decide)]; exact refuse_1.1, by rw [e2 130 (by decide)]; exact refuse_1.2⟩
theorem ro_name {I : Nat → Int32} (hc : 12 ≤ (I 194).toInt ∧ (I 194).toInt ≤ 17) : ∃ (I' : Nat → Int32) (r' : Nat → Nat → Int32), g_X4_readOne I J ri rj rq = (0, I', J, r', rj, rq) ∧ (∀ f, f ≠ 132 → I' f = I f) ∧ (∀ t, t ≠ 259 → r' t = ri t) ∧ ES I' r' = emL (ES I ri) [-I 194] := by
  rw [g_X4_readOne_e]
  try simp only [↓ap1_n]
  rw [if_neg (show ¬ I 194 = 18 from fun q => by rw [q] at hc; exact absurd hc.2 (by decide)), isN_v, if_pos hc, if_neg (show ¬ (1 : Int32) = 0 by decide)]
  obtain ⟨I', r', e1, e2, e3, e4⟩ := emit_c (J := J) (ri := ri) (rj := rj) (rq := rq) (a := -I 194) (I := I)
  rw [bv_n e1]
  exact ⟨I', r', rfl, e2, e3, e4⟩
theorem ro_op {I : Nat → Int32} {t : Int32} (ht : (I 194 = 26 ∧ t = 35) ∨ (I 194 = 29 ∧ t = 29) ∨ (I 194 = 11 ∧ I 137 ≠ 0 ∧ t = 11)) {I' : Nat → Int32} {r' : Nat → Nat → Int32} (e : g_X4_openUp t I J ri rj rq = (I', J, r', rj, rq)) : g_X4_readOne I J ri rj rq = (1, I', J, r', rj, rq) := by
  rw [g_X4_readOne_e]
  try simp only [↓ap1_n]
  rcases ht with ⟨a, b⟩ | ⟨a, b⟩ | ⟨a, a2, b⟩
  · rw [b] at e
    rw [a, if_neg (show ¬ (26 : Int32) = 18 by decide), show g_X4_isName 26 = 0 from by decide, if_pos (show (0 : Int32) = 0 from rfl), if_pos (show (26 : Int32) = 26 from rfl), bv_n e]
  · rw [b] at e
    rw [a, if_neg (show ¬ (29 : Int32) = 18 by decide), show g_X4_isName 29 = 0 from by decide, if_pos (show (0 : Int32) = 0 from rfl), if_neg (show ¬ (29 : Int32) = 26 by decide), if_pos (show (29 : Int32) = 29 from rfl), bv_n e]
  · rw [b] at e
    rw [a, if_neg (show ¬ (11 : Int32) = 18 by decide), show g_X4_isName 11 = 0 from by decide, if_pos (show (0 : Int32) = 0 from rfl), if_neg (show ¬ (11 : Int32) = 26 by decide), if_neg (show ¬ (11 : Int32) = 29 by decide), if_pos (show (11 : Int32) = 11 from rfl), if_neg a2, bv_n e]
theorem ro_no {I : Nat → Int32} (h0 : I 129 = 0) (h1 : I 194 ≠ 18) (h2 : ¬ (12 ≤ (I 194).toInt ∧ (I 194).toInt ≤ 17)) (h3 : I 194 ≠ 26) (h4 : I 194 ≠ 29) (h5 : I 194 ≠ 11 ∨ I 137 = 0) : ∃ I' : Nat → Int32, g_X4_readOne I J ri rj rq = (1, I', J, ri, rj, rq) ∧ FLT 1 I I' := by
  rw [g_X4_readOne_e]
  try simp only [↓ap1_n]
  rw [if_neg h1, isN_v, if_neg h2, if_pos (show (0 : Int32) = 0 from rfl), if_neg h3, if_neg h4]
  by_cases q : I 194 = 11
  · rw [if_pos q, if_pos (by rcases h5 with y | y; exact absurd q y; exact y), bv_n (refuse_c h0)]
    exact ⟨_, rfl, refuse_1⟩
  · rw [if_neg q, bv_n (refuse_c h0)]
    exact ⟨_, rfl, refuse_1⟩
end PR3
