/-! ===== pure: a trial's copy; SINKS on both sides ===== -/
section PU13
variable {nI : Nat → Int32} {nJ : Nat → Int64} {nR : Nat → Nat → Int32} {nL : Nat → Nat → Int64} {nQ : Nat → Nat → Option Nat}
variable {I : Nat → Int32} {J : Nat → Int64} {ri : Nat → Nat → Int32} {rj : Nat → Nat → Int64} {rq : Nat → Nat → Option Nat}
variable {U : Nat → Int32} {V : Nat → Int64} {si : Nat → Nat → Int32} {sj : Nat → Nat → Int64} {sq : Nat → Nat → Option Nat}
theorem cpy_v {f g : Nat → Int32} {n j : Nat} (h : j < n) : va_cpy f g 0 0 n j = f j := by
  unfold va_cpy
  rw [if_pos ⟨Nat.zero_le _, by omega⟩, show 0 + (j - 0) = j from by omega]
theorem cp7 : ∃ (I1 : Nat → Int32) (r1 : Nat → Nat → Int32), g_X7_copyFrom nI nR I J ri rj rq = (I1, J, r1, rj, rq) ∧ (∀ f, f ∈ [224, 234, 235, 236] → I1 f = nI f) ∧ (∀ f, f ∉ [224, 234, 235, 236, 237, 238] → I1 f = I f) ∧ (∀ t, t ∈ [225, 226, 227, 228] → ∀ j, j < 200 → r1 t j = nR t j) ∧ (∀ t, t ∈ [229, 230, 231, 232] → ∀ j, j < 12 → r1 t j = nR t j) ∧ ∀ t, t ∉ [225, 226, 227, 228, 229, 230, 231, 232, 233] → r1 t = ri t := by
  rw [g_X7_copyFrom_e]
  simp only [↓ap1_n]
  refine ⟨_, _, rfl, fun f hf => ?_, fun f hf => ?_, fun t ht j hj => ?_, fun t ht j hj => ?_, fun t ht => ?_⟩
  · simp only [List.mem_cons, List.not_mem_nil, or_false] at hf
    rcases hf with e | e | e | e <;> subst e <;> simp [va_up]
  · simp only [List.mem_cons, List.not_mem_nil, or_false, not_or] at hf
    simp [va_up, hf]
  · simp only [List.mem_cons, List.not_mem_nil, or_false] at ht
    rcases ht with e | e | e | e <;> subst e <;> simp [va_up, cpy_v hj]
  · simp only [List.mem_cons, List.not_mem_nil, or_false] at ht
    rcases ht with e | e | e | e <;> subst e <;> simp [va_up, cpy_v hj]
  · simp only [List.mem_cons, List.not_mem_nil, or_false, not_or] at ht
    simp [va_up, ht]
theorem cp2 : ∃ (I1 : Nat → Int32) (J1 : Nat → Int64) (r1 : Nat → Nat → Int32) (l1 : Nat → Nat → Int64), g_X2_copyFrom nI nJ nR nL I J ri rj rq = (I1, J1, r1, l1, rq) ∧ (∀ f, f ∈ [64, 65] → I1 f = nI f) ∧ (∀ f, f ∉ [64, 65, 66] → I1 f = I f) ∧ (∀ t, t ∈ [69, 70, 73, 74, 75, 79] → ∀ j, j < 40 → r1 t j = nR t j) ∧ ∀ t, t ∉ [69, 70, 71, 72, 73, 74, 75, 76, 77, 79, 80, 288, 289, 290] → r1 t = ri t := by
  rw [g_X2_copyFrom_e]
  simp only [↓ap1_n]
  rw [g_X9_copyFrom_e]
  simp only [↓ap1_n]
  rw [bnV_mk]
  refine ⟨_, _, _, _, rfl, fun f hf => ?_, fun f hf => ?_, fun t ht j hj => ?_, fun t ht => ?_⟩
  · simp only [List.mem_cons, List.not_mem_nil, or_false] at hf
    rcases hf with e | e <;> subst e <;> simp [va_up]
  · simp only [List.mem_cons, List.not_mem_nil, or_false, not_or] at hf
    simp [va_up, hf]
  · simp only [List.mem_cons, List.not_mem_nil, or_false] at ht
    rcases ht with e | e | e | e | e | e <;> subst e <;> simp [va_up, cpy_v hj]
  · simp only [List.mem_cons, List.not_mem_nil, or_false, not_or] at ht
    simp [va_up, ht]
def QC (nI : Nat → Int32) (nR : Nat → Nat → Int32) (b : vM) : Prop := (∀ f, f ∈ [64, 65, 224, 234, 235, 236, 320] → b.1 f = nI f) ∧ (∀ t, t ∈ [225, 226, 227, 228] → ∀ j, j < 200 → b.2.2.1 t j = nR t j) ∧ (∀ t, t ∈ [229, 230, 231, 232] → ∀ j, j < 12 → b.2.2.1 t j = nR t j) ∧ ∀ t, t ∈ [69, 70, 73, 74, 75, 79] → ∀ j, j < 40 → b.2.2.1 t j = nR t j
theorem copyFrom_v : QC nI nR (g_X10_copyFrom nI nJ nR nL nQ I J ri rj rq) := by
  rw [g_X10_copyFrom_e]
  simp only [↓ap1_n]
  generalize hI0 : va_up (va_up (va_up (va_up (va_up I 320 (nI 320)) 321 (nI 321)) 322 (nI 322)) 323 (nI 323)) 324 (nI 324) = I0
  generalize va_up ri 325 (va_cpy (nR 325) (ri 325) 0 0 40) = r0
  have h320 : I0 320 = nI 320 := by rw [← hI0]; simp [va_up]
  obtain ⟨I7, r7, e7, a7, b7, c7, d7, f7⟩ := cp7 (nI := nI) (nR := nR) (I := I0) (J := J) (ri := r0) (rj := rj) (rq := rq)
  rw [e7, bnV_mk]
  obtain ⟨I2, J2, r2, l2, e2, a2, b2, c2, f2⟩ := cp2 (nI := nI) (nJ := nJ) (nR := nR) (nL := nL) (I := I7) (J := J) (ri := r7) (rj := rj) (rq := rq)
  rw [e2, bnV_mk]
  refine bV_of g_X0_copyFrom_f (fun Ia _ ra _ _ h1 => ?_)
  refine bV_of g_X3_copyFrom_f (fun Ib _ rb _ _ h3 => ?_)
  refine bV_of g_X1_copyFrom_f (fun Ic _ rc _ _ h4 => ?_)
  have DI : ∀ f, f ∈ [64, 65, 224, 234, 235, 236, 320] → f ∉ w_X0_copyFrom.1 ∧ f ∉ w_X3_copyFrom.1 ∧ f ∉ w_X1_copyFrom.1 := by decide
  have DR : ∀ t, t ∈ [225, 226, 227, 228, 229, 230, 231, 232, 69, 70, 73, 74, 75, 79] → t ∉ w_X0_copyFrom.2.2.1 ∧ t ∉ w_X3_copyFrom.2.2.1 ∧ t ∉ w_X1_copyFrom.2.2.1 := by decide
  have gI : ∀ f, f ∈ [64, 65, 224, 234, 235, 236, 320] → Ic f = I2 f := fun f hf => by
    have x1 : Ia f = I2 f := h1.1 f (DI f hf).1
    have x2 : Ib f = Ia f := h3.1 f (DI f hf).2.1
    have x3 : Ic f = Ib f := h4.1 f (DI f hf).2.2
    rw [x3, x2, x1]
  have gR : ∀ t, t ∈ [225, 226, 227, 228, 229, 230, 231, 232, 69, 70, 73, 74, 75, 79] → rc t = r2 t := fun t ht => by
    have x1 : ra t = r2 t := h1.2.2.1 t (DR t ht).1
    have x2 : rb t = ra t := h3.2.2.1 t (DR t ht).2.1
    have x3 : rc t = rb t := h4.2.2.1 t (DR t ht).2.2
    rw [x3, x2, x1]
  refine ⟨fun f hf => ?_, fun t ht j hj => ?_, fun t ht j hj => ?_, fun t ht j hj => ?_⟩
  · show Ic f = nI f
    rw [gI f hf]
    simp only [List.mem_cons, List.not_mem_nil, or_false] at hf
    rcases hf with e | e | e | e | e | e | e <;> subst e
    · exact a2 64 (by decide)
    · exact a2 65 (by decide)
    · rw [b2 224 (by decide)]; exact a7 224 (by decide)
    · rw [b2 234 (by decide)]; exact a7 234 (by decide)
    · rw [b2 235 (by decide)]; exact a7 235 (by decide)
    · rw [b2 236 (by decide)]; exact a7 236 (by decide)
    · rw [b2 320 (by decide), b7 320 (by decide)]; exact h320
  · show rc t j = nR t j
    have D : ∀ t, t ∈ [225, 226, 227, 228] → t ∈ [225, 226, 227, 228, 229, 230, 231, 232, 69, 70, 73, 74, 75, 79] ∧ t ∉ [69, 70, 71, 72, 73, 74, 75, 76, 77, 79, 80, 288, 289, 290] := by decide
    rw [gR t (D t ht).1, f2 t (D t ht).2]
    exact c7 t ht j hj
  · show rc t j = nR t j
    have D : ∀ t, t ∈ [229, 230, 231, 232] → t ∈ [225, 226, 227, 228, 229, 230, 231, 232, 69, 70, 73, 74, 75, 79] ∧ t ∉ [69, 70, 71, 72, 73, 74, 75, 76, 77, 79, 80, 288, 289, 290] := by decide
    rw [gR t (D t ht).1, f2 t (D t ht).2]
    exact d7 t ht j hj
  · show rc t j = nR t j
    have D : ∀ t, t ∈ [69, 70, 73, 74, 75, 79] → t ∈ [225, 226, 227, 228, 229, 230, 231, 232, 69, 70, 73, 74, 75, 79] := by decide
    rw [gR t (D t ht)]
    exact c2 t ht j hj
/-- the trial stands as the country does -/
theorem RL_copy {A A1 : Nat → Int32} {I1 : Nat → Int32} {J1 : Nat → Int64} {r1 : Nat → Nat → Int32} {l1 : Nat → Nat → Int64} {q1 : Nat → Nat → Option Nat} (h : RSL nI nR A) (q : QC nI nR (I1, J1, r1, l1, q1)) (hA : ∀ i, zn i ∈ rlz → A1 i = A i) (hM : RMX A1) : RSL I1 r1 A1 := RL_cg h q.1 q.2.1 q.2.2.1 q.2.2.2 hA hM
theorem cellAt_m12 {x : Int32} (h0 : 0 ≤ x.toInt) (h1 : x.toInt ≤ 39) : g_X12_cellAt_c12 x U V si sj sq = (si 384 (100 + 16 * x.toNatClampNeg + 12), U, V, si, sj, sq) := by
  have e : g_X12_cellAt_c12 x U V si sj sq = (si 384 ((100 : Int32) + (16 : Int32) * x + 12).toNatClampNeg, U, V, si, sj, sq) := rfl
  rw [e, ixk (c := x) (k := 12) 12 (by decide) (by decide) h0 h1]
theorem sinks_l {a0 a1 a2 : Int32} (h60 : a2.toInt ≤ 60) (hc0 : 0 ≤ a0.toInt) : ∀ (n : Nat) (x : Int32) (I : Nat → Int32) (J : Nat → Int64) (ri : Nat → Nat → Int32) (rj : Nat → Nat → Int64) (U : Nat → Int32) (si : Nat → Nat → Int32) (sj : Nat → Nat → Int64), 0 ≤ x.toInt → x.toInt ≤ a2.toInt → (60 - x.toInt).toNat < n → (I 320).toInt + (a2.toInt - x.toInt) ≤ 600 → a0.toInt < (I 65).toInt → RSL I ri (si 384) → (g_X11_sinks_L35 a0 a1 a2 rq n x I J ri rj).1 = (g_X12_sinks_L38 a0 a1 a2 V sq n (-1) x U si sj).1 := by
  intro n
  induction n with
  | zero => intro x _ _ _ _ _ _ _ _ _ h; exact absurd h (Nat.not_lt_zero _)
  | succ n ih =>
    intro x I J ri rj U si sj h1 h2 h3 h4 h5 h
    rw [g_X11_sinks_L35_e, g_X12_sinks_L38_e]
    by_cases d : a2 ≤ x
    · simp only [if_pos d, g_X12_sinks_K80, ↓ap1_n]
    · have d1 := Int32.lt_iff_toInt_lt.mp (Int32.not_le.mp d)
      have e := t1_inc (x := x) (by omega) (by omega)
      have zc := clampE a0
      have z65 := clampE (I 65)
      have hc4 := h.1.2.1.2
      obtain ⟨I1, J1, r1, l1, e1, n1, n73, n74, nr, nl, nj, nd⟩ := nature_v (I := I) (J := J) (ri := ri) (rj := rj) (rq := rq) (a0 := a1) h.1 (by omega)
      obtain ⟨U1, s1, m1, e2, o2, z0, z4, z5, z12, zo, -⟩ := month_v (U := U) (V := V) (sj := sj) (sq := sq) (a0 := a1) h (by omega)
      have hd := nd a0.toNatClampNeg (by omega)
      have h12 := z12 a0.toNatClampNeg (by omega)
      simp only [if_neg d, if_neg (show ¬ (0 : Int32) ≤ -1 by decide), ↓ap1_n]
      rw [e1, e2, bnV_mk, bnV_mk, isDry_v, cellAt_m12 hc0 (by omega), bnI_mk, bnI_mk, hasBit_v hc0 (by omega), hd, h12]
      have i320 : I1 320 = I 320 := n1 320 (by decide)
      by_cases q : dryN a1 I ri a0.toNatClampNeg = true
      · simp only [if_pos q, if_neg (show ¬ (1 : Int32) = 0 by decide), g_X12_sinks_K74, ↓ap1_n]
        have oI : ∀ f, f ∈ [64, 65, 224, 234, 235, 236] → va_up I1 320 (I1 320 + 1) f = I f := fun f hf => by
          have D : ∀ f, f ∈ [64, 65, 224, 234, 235, 236] → f ≠ 320 ∧ f ≠ 66 := by decide
          rw [va_up_ne _ _ (D f hf).1]
          exact n1 f (D f hf).2
        have o0 : va_up I1 320 (I1 320 + 1) 320 = I 320 + 1 := by rw [va_up_self, i320]
        have n0 := h.1.1.1
        have q0 : (I 320 + 1).toInt = (I 320).toInt + 1 := t1_one (by omega) (by omega)
        have D2 : ∀ t, t ∈ [69, 70, 75, 79, 225, 226, 227, 228, 229, 230, 231, 232] → t ∉ [73, 74, 76, 77, 81] := by decide
        refine ih (x + Int32.ofInt 1) (va_up I1 320 (I1 320 + 1)) J1 r1 l1 U1 s1 m1 (by omega) (by omega) (by omega) (by rw [o0, q0]; omega) (by rw [oI 65 (by decide)]; exact h5) ?_
        exact RL_month (a0 := a1) h (by omega) oI o0 n73 n74 (fun t ht => nr t (D2 t ht)) z0 z4 z5 zo
      · have e3 : s1 384 (0 : Int32).toNatClampNeg - 1 = I 320 := by
          rw [show (0 : Int32).toNatClampNeg = 0 from by decide, z0, ← h.2.2.1.1]
          have q0 : (I 320 + 1).toInt = (I 320).toInt + 1 := t1_one (by have := h.1.1.1; omega) (by omega)
          exact Int32.toInt_inj.mp (by rw [i_sub q0 (show (1 : Int32).toInt = 1 by decide) (by have := h.1.1.1; omega) (by omega)]; omega)
        simp only [if_neg q, if_pos (rfl : (0 : Int32) = 0), g_X12_sinks_K74, ↓ap1_n]
        rw [e3, i320]
        have hn : ∃ k, n = k + 1 := ⟨n - 1, by omega⟩
        obtain ⟨k, hk⟩ := hn
        subst hk
        rw [g_X12_sinks_L38_e]
        have p0 : (0 : Int32) ≤ I 320 := Int32.le_iff_toInt_le.mpr (by have := h.1.1.1; have k0 : (0 : Int32).toInt = 0 := by decide
                                                                       omega)
        by_cases d2 : a2 ≤ x + Int32.ofInt 1
        · simp only [if_pos d2, g_X12_sinks_K80, ↓ap1_n, if_true]
        · simp only [if_neg d2, if_pos p0, g_X12_sinks_K80, ↓ap1_n, if_true]
theorem sinks_v {a0 a1 a2 : Int32} (h : RSL nI nR (si 384)) : (g_X11_sinks nI nJ nR nL nQ a0 a1 a2 I J ri rj rq).1 = (g_X12_sinks a0 a1 a2 U V si sj sq).1 := by
  have h' := h
  obtain ⟨⟨⟨m0, m6⟩, ⟨c0, c4⟩, hl⟩, hmx, ⟨e0, e1, e2, e3⟩, _⟩ := h'
  rw [g_X11_sinks_e, g_X12_sinks_e, isCell_c, isCell_m]
  simp only [bnI_mk]
  rw [← e2]
  by_cases q1 : bt a0 0 (nI 65 - 1) = 0
  · simp only [if_pos q1, g_X11_sinks_K19, g_X12_sinks_K19]
  · obtain ⟨v, t1, t2, t3⟩ := canTime (a0 := a2) (a1 := a1) (J := nJ) (rj := nL) (rq := nQ) (U := U) (V := V) (sj := sj) (sq := sq) h
    have b1 := bt_cell c0 c4 q1
    simp only [if_neg q1]
    rw [t1, t2]
    simp only [bnI_mk]
    by_cases q2 : v = 0
    · simp only [if_pos q2, g_X11_sinks_K19, g_X12_sinks_K19]
    · obtain ⟨b2, b3, b4, b5, b6⟩ := t3 q2
      simp only [if_neg q2, ↓ap1_n]
      have hq : QC nI nR (g_X10_copyFrom nI nJ nR nL nQ I J ri rj rq) := copyFrom_v
      generalize g_X10_copyFrom nI nJ nR nL nQ I J ri rj rq = b at hq ⊢
      obtain ⟨I1, J1, r1, l1, rq1⟩ := b
      rw [bnV_mk]
      have k0 : (0 : Int32).toInt = 0 := by decide
      have e384 : va_up si 386 (va_cpy (si 384) (si 386) 0 0 12720) 384 = si 384 := va_up_ne _ _ (by decide)
      have i320 : I1 320 = nI 320 := hq.1 320 (by decide)
      have i65 : I1 65 = nI 65 := hq.1 65 (by decide)
      refine sinks_l b5 b1.1 ((60 - (0 : Int32).toInt).toNat + 1) 0 I1 J1 r1 l1 U _ sj (by omega) (by omega) (by omega) (by rw [i320]; omega) (by rw [i65]; exact b1.2) ?_
      rw [e384]
      exact RL_copy h hq (fun _ _ => rfl) hmx
end PU13
