/-! ===== pure: a TOKEN behind a ONE, in the class ===== -/
section PR4
variable {J : Nat → Int64} {ri : Nat → Nat → Int32} {rj : Nat → Nat → Int64} {rq : Nat → Nat → Option Nat}
theorem popR_le {a : Int32} : ∀ L : List Int32, (popR a L).length ≤ L.length
  | [] => Nat.le_refl _
  | x :: L => by
    unfold popR
    split
    · exact Nat.le_refl _
    · have := popR_le (a := a) L
      show (popR a L).length ≤ L.length + 1
      omega
/-- settle, then what was come to waits -/
theorem sa_v {a c : Int32} {K : Nat → Int32} {w o : Nat} (hw : (K 134).toInt = (w : Int)) (hw3 : w < 40) (ho : (K 135).toInt = (o : Int)) (hn : popN a (stl (ri 133) w) ≤ o) (h1 : o ≤ 100) : ∃ (I' : Nat → Int32) (r' : Nat → Nat → Int32), (bnV (g_X4_settle a K J ri rj rq) fun (I6 : Nat → Int32) (_ : Nat → Int64) (r6 : Nat → Nat → Int32) (_ : Nat → Nat → Int64) (_ : Nat → Nat → Option Nat) => bnV (g_X4_await c I6 J r6 rj rq) fun (I7 : Nat → Int32) (_ : Nat → Int64) (r7 : Nat → Nat → Int32) (_ : Nat → Nat → Int64) (_ : Nat → Nat → Option Nat) => (((1 : Int32), I7, J, r7, rj, rq) : Int32 × vM)) = (1, I', J, r', rj, rq) ∧ (I' 134).toInt = (((popR a (stl (ri 133) w)).length + 1 : Nat) : Int) ∧ stl (r' 133) ((popR a (stl (ri 133) w)).length + 1) = c :: popR a (stl (ri 133) w) ∧ (I' 135).toInt = ((o - popN a (stl (ri 133) w) : Nat) : Int) ∧ (∀ f, f ≠ 132 → f ≠ 134 → f ≠ 135 → I' f = K f) ∧ (∀ t, t ≠ 133 → t ≠ 259 → r' t = ri t) ∧ ES I' r' = emL (ES K ri) (popE a (stl (ri 133) w)) := by
  obtain ⟨I6, r6, w', e1, e2, e3, e4, e5, e6, e7, e8⟩ := settle_v (J := J) (ri := ri) (rj := rj) (rq := rq) (a := a) hw (by omega) (by omega) (by omega)
  rw [bv_n e1]
  have lw : w' = (popR a (stl (ri 133) w)).length := by rw [← e4, stl_len]
  have e := await_c (J := J) (ri := r6) (rj := rj) (rq := rq) (a := c) (I := I6) e2 (by omega)
  rw [bv_n e]
  refine ⟨_, _, rfl, ?_, ?_, ?_, fun f f1 f2 f3 => by rw [va_up_ne _ _ f2]; exact e6 f f1 f2 f3, fun t t1 t2 => by rw [va_up_ne _ _ t1]; exact e7 t t2, (ES_eq (va_up_ne _ _ (by decide)) (va_up_ne _ _ (by decide))).trans e8⟩
  · rw [va_up_self, ← lw]; exact upN e2 (by omega)
  · rw [va_up_self, ← lw, stl_push, e4]
  · rw [va_up_ne _ _ (show (135 : Nat) ≠ 134 by decide), e5, ho]; omega
theorem rb_op {I : Nat → Int32} (hc : 25 ≤ (I 194).toInt ∧ (I 194).toInt ≤ 28) : g_X4_readBehindOne I J ri rj rq = (bnV (g_X4_settle (g_X4_rank (I 194)) (va_up I 137 0) J ri rj rq) fun (I6 : Nat → Int32) (_ : Nat → Int64) (r6 : Nat → Nat → Int32) (_ : Nat → Nat → Int64) (_ : Nat → Nat → Option Nat) => bnV (g_X4_await (I 194) I6 J r6 rj rq) fun (I7 : Nat → Int32) (_ : Nat → Int64) (r7 : Nat → Nat → Int32) (_ : Nat → Nat → Int64) (_ : Nat → Nat → Option Nat) => (((1 : Int32), I7, J, r7, rj, rq) : Int32 × vM)) := by
  have k1 : (25 : Int32).toInt = 25 := by decide
  have k2 : (28 : Int32).toInt = 28 := by decide
  rw [g_X4_readBehindOne_e]
  try simp only [↓ap1_n]
  rw [if_neg (show ¬ I 194 < 25 from fun q => by have := Int32.lt_iff_toInt_lt.mp q; omega), if_neg (show ¬ 28 < I 194 from fun q => by have := Int32.lt_iff_toInt_lt.mp q; omega)]
theorem rb_cmp {I : Nat → Int32} (hc : 19 ≤ (I 194).toInt ∧ (I 194).toInt ≤ 24) (hb : (I 136).toInt ≤ 0) (hm : I 138 = 0) : g_X4_readBehindOne I J ri rj rq = (bnV (g_X4_settle (g_X4_rank (I 194)) (va_up (va_up I 137 0) 138 1) J ri rj rq) fun (I6 : Nat → Int32) (_ : Nat → Int64) (r6 : Nat → Nat → Int32) (_ : Nat → Nat → Int64) (_ : Nat → Nat → Option Nat) => bnV (g_X4_await (I 194) I6 J r6 rj rq) fun (I7 : Nat → Int32) (_ : Nat → Int64) (r7 : Nat → Nat → Int32) (_ : Nat → Nat → Int64) (_ : Nat → Nat → Option Nat) => (((1 : Int32), I7, J, r7, rj, rq) : Int32 × vM)) := by
  have k1 : (25 : Int32).toInt = 25 := by decide
  have k2 : (19 : Int32).toInt = 19 := by decide
  have k0 : (0 : Int32).toInt = 0 := by decide
  rw [g_X4_readBehindOne_e]
  try simp only [↓ap1_n]
  rw [if_pos (show I 194 < 25 from Int32.lt_iff_toInt_lt.mpr (by omega)), va_up_ne _ _ (show (136 : Nat) ≠ 137 by decide), va_up_ne _ _ (show (138 : Nat) ≠ 137 by decide), if_pos (show I 136 ≤ 0 from Int32.le_iff_toInt_le.mpr (by omega)), if_pos hm, if_neg (show ¬ I 194 < 19 from fun q => by have := Int32.lt_iff_toInt_lt.mp q; omega)]
theorem rb_or {I : Nat → Int32} (hc : I 194 = 9) (hb : (I 136).toInt ≤ 0) (hm : I 138 ≠ 0) : g_X4_readBehindOne I J ri rj rq = (bnV (g_X4_settle 1 (va_up (va_up (va_up I 137 0) 138 0) 137 1) J ri rj rq) fun (I6 : Nat → Int32) (_ : Nat → Int64) (r6 : Nat → Nat → Int32) (_ : Nat → Nat → Int64) (_ : Nat → Nat → Option Nat) => bnV (g_X4_await 9 I6 J r6 rj rq) fun (I7 : Nat → Int32) (_ : Nat → Int64) (r7 : Nat → Nat → Int32) (_ : Nat → Nat → Int64) (_ : Nat → Nat → Option Nat) => (((1 : Int32), I7, J, r7, rj, rq) : Int32 × vM)) := by
  have k0 : (0 : Int32).toInt = 0 := by decide
  rw [g_X4_readBehindOne_e]
  try simp only [↓ap1_n]
  rw [hc, if_pos (show (9 : Int32) < 25 by decide), va_up_ne _ _ (show (136 : Nat) ≠ 137 by decide), va_up_ne _ _ (show (138 : Nat) ≠ 137 by decide), if_pos (show I 136 ≤ 0 from Int32.le_iff_toInt_le.mpr (by omega)), if_neg hm, if_pos (show (9 : Int32) = 9 from rfl), show g_X4_rank 9 = 1 from by decide]
theorem rb_and {I : Nat → Int32} (hc : I 194 = 10) (hb : (I 136).toInt ≤ 0) (hm : I 138 ≠ 0) : g_X4_readBehindOne I J ri rj rq = (bnV (g_X4_settle 2 (va_up (va_up (va_up I 137 0) 138 0) 137 1) J ri rj rq) fun (I6 : Nat → Int32) (_ : Nat → Int64) (r6 : Nat → Nat → Int32) (_ : Nat → Nat → Int64) (_ : Nat → Nat → Option Nat) => bnV (g_X4_await 10 I6 J r6 rj rq) fun (I7 : Nat → Int32) (_ : Nat → Int64) (r7 : Nat → Nat → Int32) (_ : Nat → Nat → Int64) (_ : Nat → Nat → Option Nat) => (((1 : Int32), I7, J, r7, rj, rq) : Int32 × vM)) := by
  have k0 : (0 : Int32).toInt = 0 := by decide
  rw [g_X4_readBehindOne_e]
  try simp only [↓ap1_n]
  rw [hc, if_pos (show (10 : Int32) < 25 by decide), va_up_ne _ _ (show (136 : Nat) ≠ 137 by decide), va_up_ne _ _ (show (138 : Nat) ≠ 137 by decide), if_pos (show I 136 ≤ 0 from Int32.le_iff_toInt_le.mpr (by omega)), if_neg hm, if_neg (show ¬ (10 : Int32) = 9 by decide), if_pos (show (10 : Int32) = 10 from rfl), show g_X4_rank 10 = 2 from by decide]
theorem rb_close {I : Nat → Int32} {w o b : Nat} (hc : I 194 = 30) (hb : (I 136).toInt = ((b + 1 : Nat) : Int)) (hb3 : b ≤ 100) (hw : (I 134).toInt = (w : Int)) (hw3 : w < 40) (ho : (I 135).toInt = (o : Int)) (hn : popN 1 (stl (ri 133) w) + 1 ≤ o) (h1 : o ≤ 100) {x : Int32} {L : List Int32} (hL : popR 1 (stl (ri 133) w) = x :: L) : ∃ (I' : Nat → Int32) (r' : Nat → Nat → Int32), g_X4_readBehindOne I J ri rj rq = (0, I', J, r', rj, rq) ∧ (I' 134).toInt = (L.length : Int) ∧ stl (r' 133) L.length = L ∧ (I' 135).toInt = ((o - popN 1 (stl (ri 133) w) - 1 : Nat) : Int) ∧ (I' 136).toInt = (b : Int) ∧ I' 137 = 0 ∧ (∀ f, f ≠ 132 → f ≠ 134 → f ≠ 135 → f ≠ 136 → f ≠ 137 → I' f = I f) ∧ (∀ t, t ≠ 259 → r' t = ri t) ∧ ES I' r' = emL (ES I ri) (popE 1 (stl (ri 133) w)) := by
  have k0 : (0 : Int32).toInt = 0 := by decide
  obtain ⟨I6, r6, w', e1, e2, e3, e4, e5, e6, e7, e70⟩ := settle_v (J := J) (ri := ri) (rj := rj) (rq := rq) (a := 1) (I := va_up I 137 0) (by rw [va_up_ne _ _ (show (134 : Nat) ≠ 137 by decide)]; exact hw) (by omega) (by rw [va_up_ne _ _ (show (135 : Nat) ≠ 137 by decide)]; omega) (by rw [va_up_ne _ _ (show (135 : Nat) ≠ 137 by decide)]; omega)
  have lw : w' = L.length + 1 := by
    have := congrArg List.length e4
    rw [stl_len, hL] at this
    exact this
  subst lw
  have e8 : stl (r6 133) L.length = L := by
    have e9 : r6 133 L.length :: stl (r6 133) L.length = x :: L := e4.trans hL
    exact (List.cons.inj e9).2
  have f6 : I6 136 = I 136 := (e6 136 (by decide) (by decide) (by decide)).trans (va_up_ne _ _ (by decide))
  have f5 : (I6 135).toInt = (o : Int) - popN 1 (stl (ri 133) w) := by rw [e5, va_up_ne _ _ (show (135 : Nat) ≠ 137 by decide), ho]
  have m4 : (I6 134 - 1).toInt = (L.length : Int) := by
    have := i_sub (x := I6 134) (y := 1) rfl (show (1 : Int32).toInt = 1 by decide) (by omega) (by omega)
    omega
  have m5 : (I6 135 - 1).toInt = ((o - popN 1 (stl (ri 133) w) - 1 : Nat) : Int) := by
    have := i_sub (x := I6 135) (y := 1) rfl (show (1 : Int32).toInt = 1 by decide) (by omega) (by omega)
    omega
  have m6 : (I6 136 - 1).toInt = (b : Int) := by
    have := i_sub (x := I6 136) (y := 1) rfl (show (1 : Int32).toInt = 1 by decide) (by rw [f6]; omega) (by rw [f6]; omega)
    rw [f6] at this ⊢
    omega
  have mx : (if 0 < I6 134 - 1 then I6 134 - 1 else 0).toInt = (L.length : Int) := by
    by_cases q : 0 < I6 134 - 1
    · rw [if_pos q]; exact m4
    · have q1 := Int32.le_iff_toInt_le.mp (Int32.not_lt.mp q)
      rw [if_neg q, k0]; omega
  rw [g_X4_readBehindOne_e]
  try simp only [↓ap1_n]
  rw [hc, if_neg (show ¬ (30 : Int32) < 25 by decide), if_pos (show (28 : Int32) < 30 by decide), va_up_ne _ _ (show (136 : Nat) ≠ 137 by decide), if_neg (show ¬ I 136 ≤ 0 from fun q => by have := Int32.le_iff_toInt_le.mp q; omega), if_pos (show (30 : Int32) = 30 from rfl), bv_n e1]
  try simp only [↓ap1_n]
  have w5 : va_up I6 136 (I6 136 - 1) 135 = I6 135 := va_up_ne _ _ (by decide)
  have w4 : ∀ v : Int32, va_up (va_up I6 136 (I6 136 - 1)) 135 v 134 = I6 134 := fun v => by rw [va_up_ne _ _ (show (134 : Nat) ≠ 135 by decide), va_up_ne _ _ (show (134 : Nat) ≠ 136 by decide)]
  rw [w5, w4]
  rw [ES_I (by decide)] at e70
  refine ⟨_, _, rfl, ?_, e8, ?_, ?_, ?_, fun f f1 f2 f3 f4 f5 => by rw [va_up_ne _ _ f2, va_up_ne _ _ f3, va_up_ne _ _ f4, e6 f f1 f2 f3, va_up_ne _ _ f5], e7, by rw [ES_I (by decide), ES_I (by decide), ES_I (by decide)]; exact e70⟩
  · rw [va_up_self]; exact mx
  · rw [va_up_ne _ _ (show (135 : Nat) ≠ 134 by decide), va_up_self]; exact m5
  · rw [va_up_ne _ _ (show (136 : Nat) ≠ 134 by decide), va_up_ne _ _ (show (136 : Nat) ≠ 135 by decide), va_up_self]; exact m6
  · rw [va_up_ne _ _ (show (137 : Nat) ≠ 134 by decide), va_up_ne _ _ (show (137 : Nat) ≠ 135 by decide), va_up_ne _ _ (show (137 : Nat) ≠ 136 by decide), e6 137 (by decide) (by decide) (by decide), va_up_self]
theorem rb_end {I : Nat → Int32} {w : Nat} (hc : I 194 = 32) (hb : (I 136).toInt ≤ 0) (hm : I 138 ≠ 0) (hw : (I 134).toInt = (w : Int)) (hw3 : w ≤ 1000) (hn : (popN 1 (stl (ri 133) w) : Int) ≤ (I 135).toInt) (h1 : (I 135).toInt ≤ 100) : ∃ (I' : Nat → Int32) (r' : Nat → Nat → Int32), g_X4_readBehindOne I J ri rj rq = (0, I', J, r', rj, rq) ∧ I' 139 = 1 ∧ (∀ f, f ≠ 132 → f ≠ 134 → f ≠ 135 → f ≠ 137 → f ≠ 139 → I' f = I f) ∧ (∀ t, t ≠ 259 → r' t = ri t) ∧ ES I' r' = emL (ES I ri) (popE 1 (stl (ri 133) w)) := by
  have k0 : (0 : Int32).toInt = 0 := by decide
  rw [g_X4_readBehindOne_e]
  try simp only [↓ap1_n]
  obtain ⟨I6, r6, w', e1, e3, e4, e5, e6, e2, e7, e8⟩ := settle_v (J := J) (ri := ri) (rj := rj) (rq := rq) (a := 1) (I := va_up I 137 0) (w := w) (by rw [va_up_ne _ _ (show (134 : Nat) ≠ 137 by decide)]; exact hw) hw3 (by rw [va_up_ne _ _ (show (135 : Nat) ≠ 137 by decide)]; exact hn) (by rw [va_up_ne _ _ (show (135 : Nat) ≠ 137 by decide)]; exact h1)
  rw [ES_I (by decide)] at e8
  rw [hc, if_neg (show ¬ (32 : Int32) < 25 by decide), if_pos (show (28 : Int32) < 32 by decide), va_up_ne _ _ (show (136 : Nat) ≠ 137 by decide), va_up_ne _ _ (show (138 : Nat) ≠ 137 by decide), if_pos (show I 136 ≤ 0 from Int32.le_iff_toInt_le.mpr (by omega)), if_neg hm, if_pos (show (32 : Int32) = 32 from rfl), bv_n e1]
  exact ⟨_, _, rfl, va_up_self _ _ _, fun f f1 f2 f3 f4 f5 => by rw [va_up_ne _ _ f5, e2 f f1 f2 f3, va_up_ne _ _ f4], e7, (ES_I (by decide)).trans e8⟩
theorem rb_no {I : Nat → Int32} (h0 : I 129 = 0) (h1 : ¬ (25 ≤ (I 194).toInt ∧ (I 194).toInt ≤ 28)) (h2 : (0 < (I 136).toInt ∧ I 194 ≠ 30) ∨ ((I 136).toInt ≤ 0 ∧ I 138 = 0 ∧ ¬ (19 ≤ (I 194).toInt ∧ (I 194).toInt ≤ 24)) ∨ ((I 136).toInt ≤ 0 ∧ I 138 ≠ 0 ∧ I 194 ≠ 9 ∧ I 194 ≠ 10 ∧ I 194 ≠ 32)) : ∃ (I' : Nat → Int32) (r' : Nat → Nat → Int32), g_X4_readBehindOne I J ri rj rq = (0, I', J, r', rj, rq) ∧ FLT 1 I I' := by
  have k25 : (25 : Int32).toInt = 25 := by decide
  have k28 : (28 : Int32).toInt = 28 := by decide
  have k19 : (19 : Int32).toInt = 19 := by decide
  have k0 : (0 : Int32).toInt = 0 := by decide
  have rf : g_X4_refuse 1 (va_up I 137 0) J ri rj rq = (va_up (va_up (va_up I 137 0) 129 1) 130 (I 195), J, ri, rj, rq) := by
    rw [refuse_c (by rw [va_up_ne _ _ (show (129 : Nat) ≠ 137 by decide)]; exact h0), va_up_ne I _ (show (195 : Nat) ≠ 137 by decide)]
  obtain ⟨I6, r6, e1, e2⟩ := settle_f (J := J) (ri := ri) (rj := rj) (rq := rq) (a := 1) (I := va_up (va_up (va_up I 137 0) 129 1) 130 (I 195))
  have f29 : I6 129 = 1 := by rw [e2 129 (by decide) (by decide) (by decide), va_up_ne _ _ (show (129 : Nat) ≠ 130 by decide), va_up_self]
  have f30 : I6 130 = I 195 := by rw [e2 130 (by decide) (by decide) (by decide), va_up_self]
  have z6 : va_up I 137 0 136 = I 136 := va_up_ne _ _ (by decide)
  have z8 : va_up I 137 0 138 = I 138 := va_up_ne _ _ (by decide)
  rw [g_X4_readBehindOne_e]
  try simp only [↓ap1_n]
  simp only [rf, bnV_mk, e1, ↓ap1_n, z6, z8]
  have up : ∀ (f : Nat) (v : Int32) (K : Nat → Int32), f ≠ 129 → f ≠ 130 → FLT 1 I K → FLT 1 I (va_up K f v) := fun f v K f1 f2 hK => ⟨by rw [va_up_ne _ _ (Ne.symm f1)]; exact hK.1, by rw [va_up_ne _ _ (Ne.symm f2)]; exact hK.2⟩
  have F : FLT 1 I I6 := ⟨f29, f30⟩
  have c28 : ¬ I 194 < 25 → 28 < I 194 := fun q => by
    have q1 := Int32.le_iff_toInt_le.mp (Int32.not_lt.mp q)
    exact Int32.lt_iff_toInt_lt.mpr (by omega)
  rcases h2 with ⟨a1, a2⟩ | ⟨a1, a2, a3⟩ | ⟨a1, a2, a3, a4, a5⟩
  · have nb : ¬ I 136 ≤ 0 := fun q => by have := Int32.le_iff_toInt_le.mp q; omega
    by_cases c : I 194 < 25
    · rw [if_pos c, if_neg nb]
      exact ⟨_, _, rfl, up _ _ _ (by decide) (by decide) (up _ _ _ (by decide) (by decide) (up _ _ _ (by decide) (by decide) F))⟩
    · rw [if_neg c, if_pos (c28 c), if_neg nb, if_neg a2]
      exact ⟨_, _, rfl, up _ _ _ (by decide) (by decide) (up _ _ _ (by decide) (by decide) (up _ _ _ (by decide) (by decide) F))⟩
  · have yb : I 136 ≤ 0 := Int32.le_iff_toInt_le.mpr (by omega)
    by_cases c : I 194 < 25
    · have c1 := Int32.lt_iff_toInt_lt.mp c
      rw [if_pos c, if_pos yb, if_pos a2, if_pos (show I 194 < 19 from Int32.lt_iff_toInt_lt.mpr (by omega))]
      exact ⟨_, _, rfl, up _ _ _ (by decide) (by decide) F⟩
    · rw [if_neg c, if_pos (c28 c), if_pos yb, if_pos a2]
      exact ⟨_, _, rfl, up _ _ _ (by decide) (by decide) F⟩
  · have yb : I 136 ≤ 0 := Int32.le_iff_toInt_le.mpr (by omega)
    by_cases c : I 194 < 25
    · rw [if_pos c, if_pos yb, if_neg a2, if_neg a3, if_neg a4]
      exact ⟨_, _, rfl, up _ _ _ (by decide) (by decide) F⟩
    · rw [if_neg c, if_pos (c28 c), if_pos yb, if_neg a2, if_neg a5]
      exact ⟨_, _, rfl, up _ _ _ (by decide) (by decide) F⟩
end PR4
