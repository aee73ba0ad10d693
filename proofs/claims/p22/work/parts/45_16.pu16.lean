/-! ===== pure: the picture and the way back; the tried calls leave the country as it was ===== -/
section PU16
variable {nI : Nat → Int32} {nJ : Nat → Int64} {nR : Nat → Nat → Int32} {nL : Nat → Nat → Int64} {nQ : Nat → Nat → Option Nat}
variable {I : Nat → Int32} {J : Nat → Int64} {ri : Nat → Nat → Int32} {rj : Nat → Nat → Int64} {rq : Nat → Nat → Option Nat}
variable {U : Nat → Int32} {V : Nat → Int64} {si : Nat → Nat → Int32} {sj : Nat → Nat → Int64} {sq : Nat → Nat → Option Nat}
variable {C : Nat → Int32}
theorem image_q {r : Int32} {I1 : Nat → Int32} {J1 : Nat → Int64} {r1 : Nat → Nat → Int32} {l1 : Nat → Nat → Int64} {q1 : Nat → Nat → Option Nat} (e : g_X11_image nI nJ nR nL nQ I J ri rj rq = (r, I1, J1, r1, l1, q1)) : QC nI nR (I1, J1, r1, l1, q1) ∧ r = nI 320 := by
  have h : QC nI nR (g_X10_copyFrom nI nJ nR nL nQ I J ri rj rq) := copyFrom_v
  rw [g_X11_image_e] at e
  generalize g_X10_copyFrom nI nJ nR nL nQ I J ri rj rq = p at h e
  obtain ⟨a, b, c, d, f⟩ := p
  have e2 : ((nI 320, a, b, c, d, f) : Int32 × vM) = (r, I1, J1, r1, l1, q1) := e
  obtain ⟨x0, x⟩ := Prod.mk.inj e2
  exact ⟨x ▸ h, x0.symm⟩
theorem back_q {r : Int32} {I1 : Nat → Int32} {J1 : Nat → Int64} {r1 : Nat → Nat → Int32} {l1 : Nat → Nat → Int64} {q1 : Nat → Nat → Option Nat} (e : g_X11_back nI nJ nR nL nQ I J ri rj rq = (r, I1, J1, r1, l1, q1)) : QC nI nR (I1, J1, r1, l1, q1) ∧ r = nI 320 := by
  have h : QC nI nR (g_X10_copyFrom nI nJ nR nL nQ I J ri rj rq) := copyFrom_v
  rw [g_X11_back_e] at e
  generalize g_X10_copyFrom nI nJ nR nL nQ I J ri rj rq = p at h e
  obtain ⟨a, b, c, d, f⟩ := p
  have e2 : ((a 320, a, b, c, d, f) : Int32 × vM) = (r, I1, J1, r1, l1, q1) := e
  obtain ⟨x0, x⟩ := Prod.mk.inj e2
  exact ⟨x ▸ h, x0.symm.trans (h.1 320 (by decide))⟩
theorem image_m {r : Int32} {U1 : Nat → Int32} {V1 : Nat → Int64} {s1 : Nat → Nat → Int32} {m1 : Nat → Nat → Int64} {q1 : Nat → Nat → Option Nat} (e : g_X12_image U V si sj sq = (r, U1, V1, s1, m1, q1)) : r = si 384 0 ∧ ∀ i, i < 12720 → s1 385 i = si 384 i := by
  have e2 : ((si 384 0, U, V, va_up si 385 (va_cpy (si 384) (si 385) 0 0 12720), sj, sq) : Int32 × vM) = (r, U1, V1, s1, m1, q1) := e
  obtain ⟨x0, x⟩ := Prod.mk.inj e2
  have x3 : va_up si 385 (va_cpy (si 384) (si 385) 0 0 12720) = s1 := congrArg (fun p : vM => p.2.2.1) x
  refine ⟨x0.symm, fun i hi => ?_⟩
  rw [← x3, va_up_self]
  exact cpy_v hi
theorem back_m {r : Int32} {U1 : Nat → Int32} {V1 : Nat → Int64} {s1 : Nat → Nat → Int32} {m1 : Nat → Nat → Int64} {q1 : Nat → Nat → Option Nat} (e : g_X12_back U V si sj sq = (r, U1, V1, s1, m1, q1)) : r = si 385 0 ∧ ∀ i, i < 12720 → s1 384 i = si 385 i := by
  have e2 : ((va_up si 384 (va_cpy (si 385) (si 384) 0 0 12720) 384 (0 : Int32).toNatClampNeg, U, V, va_up si 384 (va_cpy (si 385) (si 384) 0 0 12720), sj, sq) : Int32 × vM) = (r, U1, V1, s1, m1, q1) := e
  obtain ⟨x0, x⟩ := Prod.mk.inj e2
  have x3 : va_up si 384 (va_cpy (si 385) (si 384) 0 0 12720) = s1 := congrArg (fun p : vM => p.2.2.1) x
  have k : ∀ i, i < 12720 → va_up si 384 (va_cpy (si 385) (si 384) 0 0 12720) 384 i = si 385 i := fun i hi => by rw [va_up_self]; exact cpy_v hi
  refine ⟨x0.symm.trans (k _ (by decide)), fun i hi => ?_⟩
  rw [← x3]
  exact k i hi
/-- the country is C again -/
def KC6 (C : Nat → Int32) (p : Int32 × vM) : Prop := ∀ i, i < 12720 → p.2.2.2.1 384 i = C i
theorem kc_e {r : Int32} {U1 : Nat → Int32} {V1 : Nat → Int64} {s1 : Nat → Nat → Int32} {m1 : Nat → Nat → Int64} {q1 : Nat → Nat → Option Nat} {p : Int32 × vM} (h : KC6 C p) (e : p = (r, U1, V1, s1, m1, q1)) : ∀ i, i < 12720 → s1 384 i = C i := by
  rw [e] at h
  exact h
theorem kc_no {v : Int32} : KC6 (si 384) (v, U, V, si, sj, sq) := fun _ _ => rfl
theorem kc_cp {v : Int32} {s : Nat → Nat → Int32} (h : ∀ i, i < 12720 → s 386 i = C i) : KC6 C (v, U, V, va_up s 384 (va_cpy (s 386) (s 384) 0 0 12720), sj, sq) := fun i hi => by
  show va_up s 384 (va_cpy (s 386) (s 384) 0 0 12720) 384 i = C i
  rw [va_up_self, cpy_v hi]
  exact h i hi
theorem kc_st : (∀ i, i < 12720 → va_up si 386 (va_cpy (si 384) (si 386) 0 0 12720) 386 i = si 384 i) ∧ va_up si 386 (va_cpy (si 384) (si 386) 0 0 12720) 384 = si 384 := ⟨fun i hi => by rw [va_up_self]; exact cpy_v hi, va_up_ne _ _ (by decide)⟩
/-- what a month leaves -/
theorem mo_386 {a0 : Int32} {U1 : Nat → Int32} {V1 : Nat → Int64} {s1 : Nat → Nat → Int32} {m1 : Nat → Nat → Int64} {q1 : Nat → Nat → Option Nat} (e : g_X12_month a0 U V si sj sq = (U1, V1, s1, m1, q1)) (h : ∀ i, i < 12720 → si 386 i = C i) : ∀ i, i < 12720 → s1 386 i = C i := fun i hi => by
  have f := g_X12_month_f (a0 := a0) (I := U) (J := V) (ri := si) (rj := sj) (rq := sq)
  rw [e] at f
  rw [show s1 386 = si 386 from f.2.2.1 386 (by decide)]
  exact h i hi
theorem isTime_b {a0 k a1 : Int32} : ∃ v : Int32, g_X12_isTime a0 k a1 U V si sj sq = (v, U, V, si, sj, sq) ∧ (v ≠ 0 → a0.toInt ≤ k.toInt) := by
  rw [g_X12_isTime_e]
  simp only [↓ap1_n, isIn_b, isRise_m, g_X12_isTime_K34]
  by_cases q2 : bt a0 1 k = 0
  · simp only [if_pos q2]
    exact ⟨0, rfl, fun y => absurd rfl y⟩
  · have b2 := bt_n q2
    simp only [if_neg q2]
    by_cases q1 : bt a1 0 2 = 0
    · simp only [if_pos q1]
      exact ⟨0, rfl, fun y => absurd rfl y⟩
    · simp only [if_neg q1]
      by_cases q3 : (600 : Int32) < si 384 0 + a0
      · simp only [if_pos q3]
        exact ⟨0, rfl, fun y => absurd rfl y⟩
      · simp only [if_neg q3]
        exact ⟨1, rfl, fun _ => b2.2⟩
theorem t1_i {x a : Int32} (h0 : 0 ≤ x.toInt) (h1 : x.toInt < a.toInt) (ha : a.toInt ≤ 60) : (x + Int32.ofInt 1).toInt = x.toInt + 1 := t1_inc (by omega) (by omega)
theorem sinks_k {a0 a1 a2 : Int32} (h60 : a2.toInt ≤ 60) : ∀ (n : Nat) (r x : Int32) (U : Nat → Int32) (s : Nat → Nat → Int32) (m : Nat → Nat → Int64), 0 ≤ x.toInt → (60 - x.toInt).toNat < n → (∀ i, i < 12720 → s 386 i = C i) → KC6 C (g_X12_sinks_L38 a0 a1 a2 V sq n r x U s m) := by
  intro n
  induction n with
  | zero => intro _ x _ _ _ _ h; exact absurd h (Nat.not_lt_zero _)
  | succ n ih =>
    intro r x U s m h1 h2 h
    rw [g_X12_sinks_L38_e]
    by_cases d : a2 ≤ x
    · rw [if_pos d]; exact kc_cp h
    · rw [if_neg d]
      by_cases d2 : (0 : Int32) ≤ r
      · rw [if_pos d2]; exact kc_cp h
      · rw [if_neg d2]
        have d1 := Int32.lt_iff_toInt_lt.mp (Int32.not_le.mp d)
        have e1 := t1_i h1 d1 h60
        have hm := fun U1 V1 s1 m1 q1 (e : g_X12_month a1 U V s m sq = (U1, V1, s1, m1, q1)) => mo_386 e h
        generalize g_X12_month a1 U V s m sq = p at hm ⊢
        obtain ⟨U1, V1, s1, m1, q1⟩ := p
        have h3 := hm U1 V1 s1 m1 q1 rfl
        rw [bnV_mk]
        have k : ∀ z, KC6 C (g_X12_sinks_K74 x (g_X12_sinks_L38 a0 a1 a2 V sq n) U1 s1 m1 z) := fun z => ih z (x + Int32.ofInt 1) U1 s1 m1 (by omega) (by omega) h3
        simp only [bnI_u, ↓ap1_n]
        split
        · exact k _
        · exact k _
theorem sinks_kc {a0 a1 a2 : Int32} : KC6 (si 384) (g_X12_sinks a0 a1 a2 U V si sj sq) := by
  rw [g_X12_sinks_e]
  obtain ⟨v, et, ti⟩ := isTime_b (a0 := a2) (k := 60) (a1 := a1) (U := U) (V := V) (si := si) (sj := sj) (sq := sq)
  rw [et]
  simp only [bnI_u]
  split
  · exact kc_no
  · split
    · exact kc_no
    · next h => exact sinks_k (ti h) _ _ _ _ _ _ (by decide) (by decide) kc_st.1
theorem cant_k {a0 a1 : Int32} (h60 : a1.toInt ≤ 60) : ∀ (n : Nat) (r x : Int32) (U : Nat → Int32) (s : Nat → Nat → Int32) (m : Nat → Nat → Int64), 0 ≤ x.toInt → (60 - x.toInt).toNat < n → (∀ i, i < 12720 → s 386 i = C i) → KC6 C (g_X12_cant_L29 a0 a1 V sq n r x U s m) := by
  intro n
  induction n with
  | zero => intro _ x _ _ _ _ h; exact absurd h (Nat.not_lt_zero _)
  | succ n ih =>
    intro r x U s m h1 h2 h
    rw [g_X12_cant_L29_e]
    by_cases d : a1 ≤ x
    · rw [if_pos d]; exact kc_cp h
    · rw [if_neg d]
      by_cases d2 : (0 : Int32) ≤ r
      · rw [if_pos d2]; exact kc_cp h
      · rw [if_neg d2]
        have d1 := Int32.lt_iff_toInt_lt.mp (Int32.not_le.mp d)
        have e1 := t1_i h1 d1 h60
        have hm := fun U1 V1 s1 m1 q1 (e : g_X12_month a0 U V s m sq = (U1, V1, s1, m1, q1)) => mo_386 e h
        generalize g_X12_month a0 U V s m sq = p at hm ⊢
        obtain ⟨U1, V1, s1, m1, q1⟩ := p
        have h3 := hm U1 V1 s1 m1 q1 rfl
        have k : ∀ z, KC6 C (g_X12_cant_K61 x (g_X12_cant_L29 a0 a1 V sq n) U1 s1 m1 z) := fun z => ih z (x + Int32.ofInt 1) U1 s1 m1 (by omega) (by omega) h3
        unfold bnV
        show KC6 C (if _ then _ else _)
        split
        · exact k _
        · exact k _
theorem cant_kc {a0 a1 : Int32} : KC6 (si 384) (g_X12_cant a0 a1 U V si sj sq) := by
  rw [g_X12_cant_e]
  obtain ⟨v, et, ti⟩ := isTime_b (a0 := a1) (k := 60) (a1 := a0) (U := U) (V := V) (si := si) (sj := sj) (sq := sq)
  rw [et]
  simp only [bnI_u]
  split
  · exact kc_no
  · next h => exact cant_k (ti h) _ _ _ _ _ _ (by decide) (by decide) kc_st.1
/-- behind the sand's way the country is what was kept; so is what was kept -/
theorem sb_k {a0 a1 a2 : Int32} (h60 : a2.toInt ≤ 60) : ∀ (n : Nat) (x : Int32) (U : Nat → Int32) (s : Nat → Nat → Int32) (m : Nat → Nat → Int64), 0 ≤ x.toInt → (60 - x.toInt).toNat < n → (∀ i, i < 12720 → s 386 i = C i) → KC6 C (g_X12_sandBehind_L3 a0 a1 a2 V sq n x U s m) := by
  intro n
  induction n with
  | zero => intro x _ _ _ _ h; exact absurd h (Nat.not_lt_zero _)
  | succ n ih =>
    intro x U s m h1 h2 h
    rw [g_X12_sandBehind_L3_e]
    by_cases d : a2 ≤ x
    · rw [if_pos d]
      unfold bnI
      exact kc_cp h
    · rw [if_neg d]
      have d1 := Int32.lt_iff_toInt_lt.mp (Int32.not_le.mp d)
      have e1 := t1_i h1 d1 h60
      have hm := fun U1 V1 s1 m1 q1 (e : g_X12_month a1 U V s m sq = (U1, V1, s1, m1, q1)) => mo_386 e h
      generalize g_X12_month a1 U V s m sq = p at hm ⊢
      obtain ⟨U1, V1, s1, m1, q1⟩ := p
      exact ih (x + Int32.ofInt 1) U1 s1 m1 (by omega) (by omega) (hm U1 V1 s1 m1 q1 rfl)
theorem keeps_kc {a0 a1 a2 a3 : Int32} : KC6 (si 384) (g_X12_keeps a0 a1 a2 a3 U V si sj sq) := by
  rw [g_X12_keeps_e]
  obtain ⟨v, et, ti⟩ := isTime_b (a0 := a3) (k := 60) (a1 := a2) (U := U) (V := V) (si := si) (sj := sj) (sq := sq)
  rw [et]
  simp only [bnI_u]
  split
  · exact kc_no
  · split
    · exact kc_no
    · split
      · exact kc_no
      · split
        · exact kc_no
        · next h =>
          have st := kc_st (si := si)
          generalize va_up si 386 (va_cpy (si 384) (si 386) 0 0 12720) = S at st ⊢
          have f1 := g_X12_sandBehind_f (a0 := a1) (a1 := a2) (a2 := a3) (I := U) (J := V) (ri := S) (rj := sj) (rq := sq)
          simp only [↓ap1_n]
          generalize g_X12_sandBehind a1 a2 a3 U V S sj sq = p at f1 ⊢
          obtain ⟨x1, U1, V1, s1, m1, q1⟩ := p
          have g1 : s1 386 = S 386 := f1.2.2.1 386 (by decide)
          exact fun i hi => sb_k (C := si 384) (ti h) _ (0 : Int32) U1 (va_up s1 384 _) m1 (by decide) (Nat.lt_succ_self _) (fun i hi => by rw [va_up_ne _ _ (by decide), g1]; exact st.1 i hi) i hi
/-- the country and what was kept of it are C -/
def KI6 (C : Nat → Int32) (s : Nat → Nat → Int32) : Prop := (∀ i, i < 12720 → s 384 i = C i) ∧ ∀ i, i < 12720 → s 386 i = C i
theorem ki_up {s : Nat → Nat → Int32} {t : Nat} {g : Nat → Int32} (h : KI6 C s) (h1 : t ≠ 384) (h2 : t ≠ 386) : KI6 C (va_up s t g) := ⟨fun i hi => by rw [va_up_ne _ _ (Ne.symm h1)]; exact h.1 i hi, fun i hi => by rw [va_up_ne _ _ (Ne.symm h2)]; exact h.2 i hi⟩
theorem ki_next {x r : Int32} {s s1 : Nat → Nat → Int32} {U1 : Nat → Int32} {V1 : Nat → Int64} {m1 : Nat → Nat → Int64} {q1 : Nat → Nat → Option Nat} (h : KI6 C s) (e : g_X12_nextOrder x U V s sj sq = (r, U1, V1, s1, m1, q1)) : KI6 C s1 := by
  have f := g_X12_nextOrder_f (a0 := x) (I := U) (J := V) (ri := s) (rj := sj) (rq := sq)
  rw [e] at f
  exact ⟨fun i hi => by rw [show s1 384 = s 384 from f.2.2.1 384 (by decide)]; exact h.1 i hi, fun i hi => by rw [show s1 386 = s 386 from f.2.2.1 386 (by decide)]; exact h.2 i hi⟩
theorem ki_back {s : Nat → Nat → Int32} (h : ∀ i, i < 12720 → s 386 i = C i) : KI6 C (va_up s 384 (va_cpy (s 386) (s 384) 0 0 12720)) := ⟨fun i hi => by rw [va_up_self, cpy_v hi]; exact h i hi, fun i hi => by rw [va_up_ne _ _ (by decide)]; exact h i hi⟩
section ORD
variable {a0 a1 a2 xr x3 x4 : Int32} {k : Int32 → Int32 → (Nat → Int32) → (Nat → Nat → Int32) → (Nat → Nat → Int64) → Int32 × vM}
theorem or_nx {s : Nat → Nat → Int32} {z : Int32} (hk : ∀ x y I s m, KI6 C s → KC6 C (k x y I s m)) (h : KI6 C s) : KC6 C (bnI (g_X12_nextOrder xr U V s sj sq) fun (x : Int32) (_ : Nat → Int32) (_ : Nat → Int64) (r : Nat → Nat → Int32) (_ : Nat → Nat → Int64) (_ : Nat → Nat → Option Nat) => k z x U r sj) := by
  have hn := fun r U1 V1 s1 m1 q1 (e : g_X12_nextOrder xr U V s sj sq = (r, U1, V1, s1, m1, q1)) => ki_next h e
  generalize g_X12_nextOrder xr U V s sj sq = p at hn ⊢
  obtain ⟨r, U1, V1, s1, m1, q1⟩ := p
  exact hk _ _ _ _ _ (hn r U1 V1 s1 m1 q1 rfl)
theorem or_180 (hk : ∀ x y I s m, KI6 C s → KC6 C (k x y I s m)) : ∀ (n : Nat) (x : Int32) (s : Nat → Nat → Int32), KI6 C s → KC6 C (g_X12_order_L180 V sq xr k U sj x3 n x s) := by
  intro n
  induction n with
  | zero => intro x s h; exact h.1
  | succ n ih =>
    intro x s h
    rw [g_X12_order_L180_e]
    split
    · exact or_nx hk h
    · exact ih _ _ (ki_up h (by decide) (by decide))
theorem or_124 (h12 : a1.toInt ≤ 12) (hk : ∀ x y I s m, KI6 C s → KC6 C (k x y I s m)) : ∀ (n : Nat) (x : Int32) (U : Nat → Int32) (s : Nat → Nat → Int32) (m : Nat → Nat → Int64), 0 ≤ x.toInt → (12 - x.toInt).toNat < n → (∀ i, i < 12720 → s 386 i = C i) → KC6 C (g_X12_order_L124 a0 a1 V sq xr x3 k x4 n x U s m) := by
  intro n
  induction n with
  | zero => intro x _ _ _ _ h; exact absurd h (Nat.not_lt_zero _)
  | succ n ih =>
    intro x U s m h1 h2 h
    rw [g_X12_order_L124_e]
    by_cases d : a1 ≤ x
    · rw [if_pos d]
      have hb := ki_back h
      unfold bnI
      simp only [↓ap1_n]
      split
      · exact or_180 hk _ _ _ hb
      · split
        · exact or_nx hk hb
        · exact or_180 hk _ _ _ hb
    · rw [if_neg d]
      have d1 := Int32.lt_iff_toInt_lt.mp (Int32.not_le.mp d)
      have e1 := t1_i h1 d1 (by omega)
      have hm := fun U1 V1 s1 m1 q1 (e : g_X12_month a0 U V s m sq = (U1, V1, s1, m1, q1)) => mo_386 e h
      generalize g_X12_month a0 U V s m sq = p at hm ⊢
      obtain ⟨U1, V1, s1, m1, q1⟩ := p
      exact ih (x + Int32.ofInt 1) U1 s1 m1 (by omega) (by omega) (hm U1 V1 s1 m1 q1 rfl)
theorem or_88 (h12 : a1.toInt ≤ 12) (hk : ∀ x y I s m, KI6 C s → KC6 C (k x y I s m)) : ∀ (n : Nat) (x : Int32) (s : Nat → Nat → Int32), KI6 C s → KC6 C (g_X12_order_L88 a0 a1 V sq xr x3 U sj k n x s) := by
  intro n
  induction n with
  | zero => intro x s h; exact h.1
  | succ n ih =>
    intro x s h
    rw [g_X12_order_L88_e]
    split
    · exact or_124 h12 hk _ _ _ _ _ (by decide) (Nat.lt_succ_self _) h.2
    · exact ih _ _ (ki_up h (by decide) (by decide))
theorem or_80 (h12 : a1.toInt ≤ 12) : ∀ (n : Nat) (x y : Int32) (U : Nat → Int32) (s : Nat → Nat → Int32) (m : Nat → Nat → Int64), KI6 C s → KC6 C (g_X12_order_L80 a0 a1 a2 V sq xr n x y U s m) := by
  intro n
  induction n with
  | zero => intro x y U s m h; exact h.1
  | succ n ih =>
    intro x y U s m h
    rw [g_X12_order_L80_e]
    split
    · simp only [↓ap1_n]
      split
      · exact h.1
      · exact h.1
    · exact or_88 h12 (fun x y U s m h => ih x y U s m h) _ _ _ h
theorem or_48 (h12 : a1.toInt ≤ 12) : ∀ (n : Nat) (x : Int32) (s : Nat → Nat → Int32), KI6 C s → KC6 C (g_X12_order_L48 a0 a1 a2 U V sj sq xr n x s) := by
  intro n
  induction n with
  | zero => intro x s h; exact h.1
  | succ n ih =>
    intro x s h
    rw [g_X12_order_L48_e]
    split
    · exact or_80 h12 _ _ _ _ _ _ h
    · exact ih _ _ (ki_up h (by decide) (by decide))
theorem or_26 (h12 : a1.toInt ≤ 12) : KC6 (si 384) (g_X12_order_K26 a0 a1 a2 U V si sj sq) := by
  rw [g_X12_order_K26_e]
  have st := kc_st (si := si)
  simp only [↓ap1_n]
  refine or_48 h12 _ _ _ ⟨fun i _ => ?_, st.1⟩
  rw [st.2]
theorem order_kc : KC6 (si 384) (g_X12_order a0 a1 a2 U V si sj sq) := by
  rw [g_X12_order_e]
  obtain ⟨v, et, ti⟩ := isTime_b (a0 := a1) (k := 12) (a1 := a0) (U := U) (V := V) (si := si) (sj := sj) (sq := sq)
  rw [et]
  simp only [bnI_u]
  split
  · exact kc_no
  · next h =>
    have h12 : a1.toInt ≤ 12 := ti h
    split
    · exact or_26 h12
    · split
      · exact kc_no
      · exact or_26 h12
end ORD
end PU16
