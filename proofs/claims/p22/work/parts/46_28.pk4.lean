/-! ===== pure: the queue of both sides, the heir (behind pk3) ===== -/
section PK4
variable {I : Nat → Int32} {J : Nat → Int64} {ri : Nat → Nat → Int32} {rj : Nat → Nat → Int64} {rq : Nat → Nat → Option Nat}
variable {U : Nat → Int32} {V : Nat → Int64} {si : Nat → Nat → Int32} {sj : Nat → Nat → Int64} {sq : Nat → Nat → Option Nat}
variable {tI : Nat → Nat → Int32} {tR : Nat → Nat → Nat → Int32}
/-- the class's rows hold what a PERSON is -/
def PRW (R : Nat → Nat → Int32) (A : Nat → Int32) (z : Nat) : Prop := R 1 z = A (740 + 12 * z) ∧ R 2 z = A (740 + 12 * z + 1) ∧ R 3 z = A (740 + 12 * z + 2) ∧ R 5 z = A (740 + 12 * z + 3)
theorem FLK_p {A : Nat → Int32} {p : Nat} (h : FLK I ri A) (hp : p < 40) : PRW ri A p := ⟨(h.2.2 p hp).1.1, (h.2.2 p hp).1.2.1, (h.2.2 p hp).1.2.2.1, (h.2.2 p hp).1.2.2.2.1⟩
theorem tft_w {a mo : Int32} (h0 : 0 ≤ a.toInt) (h8 : a.toInt ≤ 8) (hT : TXS I rq tI tR (si 384)) (hF : FCS I ri (si 384)) : ∃ (o : Option Nat) (y : Int32), g_X3_textFor tI tR a mo I J ri rj rq = (o, I, J, ri, rj, rq) ∧ g_X12_textFor (srC a) mo U V si sj sq = (y, U, V, si, sj, sq) ∧ ((o = none ∧ y = -1) ∨ ∃ (w t : Nat) (M : CLs), o = some w ∧ y.toInt = (t : Int) ∧ t ≤ 9 ∧ TEX1 tI tR (si 384) w t M ∧ ∃ i, i < M.length ∧ tR 257 w i = a) := by
  have n7 : (7 : Int32).toNatClampNeg = 7 := by decide
  have hF' := hF
  obtain ⟨f0, ⟨f1, f2⟩, _⟩ := hF'
  rw [g_X3_textFor_e, g_X12_textFor_e]
  simp only [↓ap1_n, n7]
  rw [f0]
  have hx : (si 384 7 - 1).toInt = (si 384 7).toInt - 1 := i_sub rfl (show (1 : Int32).toInt = 1 by decide) (by omega) (by omega)
  exact tf_sim (I := I) (J := J) (ri := ri) (rj := rj) (rq := rq) (U := U) (V := V) (si := si) (sj := sj) (sq := sq) (tI := tI) (tR := tR) (a := a) (mo := mo) h0 h8 hT hF (((si 384 7 - 1).toInt - (-1)).toNat + 1) (si 384 7 - 1) (by rw [hx]; omega) (by rw [hx]; omega) (by rw [hx]; omega)
/-- KEYS that hold: both sides compare by them, whatever else changes -/
theorem kf_v {a mo : Int32} (ha : a.toInt = 4 ∨ a.toInt = 5) (hT : TXS I rq tI tR (si 384)) (hF : FCS I ri (si 384)) : (g_X3_textFor tI tR a mo I J ri rj rq = (none, I, J, ri, rj, rq) ∧ g_X12_keysFor (srC a) mo U V si sj sq = (0, va_up U 406 (-1), V, si, sj, sq)) ∨ ∃ (w : Nat) (cl K : Int32) (E : List Int32), g_X3_textFor tI tR a mo I J ri rj rq = (some w, I, J, ri, rj, rq) ∧ g_X8_firstOf tI tR w a I J ri rj rq = (cl, I, J, ri, rj, rq) ∧ g_X12_keysFor (srC a) mo U V si sj sq = (1, va_up U 406 K, V, si, sj, sq) ∧ (∀ (R : Nat → Nat → Int32) (x y : Int32) (p q : Nat), x.toInt = (p : Int) → y.toInt = (q : Int) → PRW R (si 384) p → PRW R (si 384) q → g_X8_isAhead tI tR w cl x y I J R rj rq = ((if ahd (si 384) E p q = true then 1 else 0), I, J, R, rj, rq)) ∧ ∀ (U1 : Nat → Int32) (s : Nat → Nat → Int32) (m : Nat → Nat → Int64) (mo2 x y : Int32) (p q : Nat), U1 406 = K → s 384 = si 384 → x.toInt = (p : Int) → y.toInt = (q : Int) → p < 40 → q < 40 → g_X12_isAhead x y mo2 U1 V s m sq = ((if ahd (si 384) E p q = true then 1 else 0), U1, V, s, m, sq) := by
  have k0 : (0 : Int32).toInt = 0 := by decide
  have km : (-1 : Int32).toInt = -1 := by decide
  have a0 : 0 ≤ a.toInt := by omega
  have a8 : a.toInt ≤ 8 := by omega
  obtain ⟨o, y, t1, t2, t3⟩ := tft_w (I := I) (J := J) (ri := ri) (rj := rj) (rq := rq) (U := U) (V := V) (si := si) (sj := sj) (sq := sq) (tI := tI) (tR := tR) (a := a) (mo := mo) a0 a8 hT hF
  rcases t3 with ⟨e1, e2⟩ | ⟨w, t, M, e1, e2, e3, e4, i9, i1, i2⟩
  · refine Or.inl ⟨by rw [t1, e1], ?_⟩
    rw [g_X12_keysFor_e, bn_n t2, if_neg (show ¬ (0 : Int32) ≤ y by rw [e2]; decide)]
    simp only [↓ap1_n]
  · have hX := e4
    obtain ⟨x1, x2, x3, x4, u, x5, x6, x7⟩ := e4
    obtain ⟨y1, y2, f1, f2, f3⟩ := fo_sim (I := I) (J := J) (ri := ri) (rj := rj) (rq := rq) (U := U) (V := V) (si := si) (sj := sj) (sq := sq) (tI := tI) (tR := tR) (a := a) x1 x2 x3 e2 (by omega) (TEX1_s hX a0 a8) ((20 - (0 : Int32).toInt).toNat + 1) 0 0 k0 (Nat.zero_le _) (by rw [k0]; omega)
    have hpos : ∃ i, i < M.length ∧ y1.toInt = (i : Int) ∧ y2.toInt = ((3720 + 900 * t + 1 + 12 * i : Nat) : Int) ∧ tR 257 w i = a := by
      rcases f3 with ⟨z1, z2, z3⟩ | z
      · exfalso
        exact z3 i9 (Nat.zero_le _) i1 i2
      · exact z
    obtain ⟨i, i1, i2, i3, i4⟩ := hpos
    obtain ⟨E, c, b1, b2, b3, b4, b5, b6, b7, b8⟩ := cl_ky M u x4 x5 i i1 (by show (tR 257 w i).toInt = 4 ∨ (tR 257 w i).toInt = 5; rw [i4]; exact ha)
    have b1 : (tR 258 w i).toInt = (c : Int) := b1
    have b2 : (tR 258 w (i + 1)).toInt = ((c + E.length : Nat) : Int) := b2
    refine Or.inr ⟨w, y1, y2, E, by rw [t1, e1], ?_, ?_, fun R x y p q hx hy hp hq => ?_, fun U1 s m mo2 x y p q hU hs hx hy hp hq => ?_⟩
    · rw [g_X8_firstOf_e]
      exact f1
    · have hy0 : (0 : Int32) ≤ y := Int32.le_iff_toInt_le.mpr (by rw [k0]; omega)
      rw [g_X12_keysFor_e, bn_n t2, if_pos hy0, g_X12_firstOf_e, bn_n f2]
      simp only [↓ap1_n]
    · have n0 : ¬ y1 < 0 := fun z => by
        have := Int32.lt_iff_toInt_lt.mp z
        rw [k0] at this
        omega
      have n1 : y1 < tI 256 w := Int32.lt_iff_toInt_lt.mpr (by omega)
      have j1 : (y1 + 1).toNatClampNeg = i + 1 := at_n (upN i2 (by omega))
      rw [g_X8_isAhead_e, if_neg n0]
      simp only [↓ap1_n]
      rw [if_pos n1, at_n i2]
      exact ah_c (I := I) (J := J) (ri := R) (rj := rj) (rq := rq) (tR := tR) (A := si 384) (by rw [j1]) hx hy (fun z hz => by rcases hz with hz | hz <;> rw [hz]; exact hp; exact hq) E _ c _ (by rw [b1]; omega) b3 b1 b2 (by omega) b7
    · have hp' := ah_m (U := U1) (V := V) (si := s) (sj := m) (sq := sq) (a0 := x) (a1 := y) (mo := mo2) (p := p) (q := q) (K := 3720 + 900 * t + 1 + 12 * i) (L := E.length) hx hy hp hq (by rw [hU]; exact i3) (by omega) (by rw [hs]; exact b5) b4 E ((200 - (0 : Int32).toInt).toNat + 1) 0 0 (by rw [k0]; omega) (fun j z hz => by rw [Nat.zero_add, hs]; exact b6 j z hz) k0 (Nat.zero_add _) b7
      rw [g_X12_isAhead_e, hp', hs]
/-! the queue in a row -/
def RWq (f : Nat → Int32) : List Nat → Prop
  | [] => True
  | q :: Q => (f Q.length).toInt = (q : Int) ∧ RWq f Q
theorem RWq_u {f g : Nat → Int32} : ∀ Q : List Nat, RWq f Q → (∀ i, i < Q.length → g i = f i) → RWq g Q
  | [], _, _ => trivial
  | q :: Q, h, e => by
    have hl : (q :: Q).length = Q.length + 1 := rfl
    exact ⟨by rw [e _ (by omega)]; exact h.1, RWq_u Q h.2 (fun i hi => e i (by omega))⟩
/-- how the queue is compared: by KEYS, or not at all -/
def ltk (A : Nat → Int32) (o : Option (List Int32)) : Nat → Nat → Bool := match o with | none => fun _ _ => false | some E => ahd A E
theorem ltk_s {A : Nat → Int32} {o : Option (List Int32)} : SWO (ltk A o) := by
  cases o with
  | none => exact SWO_0
  | some E => exact SWO_k
/-- the class: one PERSON more in the queue -/
theorem li_78 {w p : Nat} {cl xi xp : Int32} {lt : Nat → Nat → Bool} {k : Int32 → (Nat → Nat → Int32) → vM} (hp : xp.toInt = (p : Int)) (hA : ∀ (f : Nat → Int32) (y : Int32) (q : Nat), y.toInt = (q : Int) → q < 40 → g_X8_isAhead tI tR w cl xp y I J (va_up ri 331 f) rj rq = ((if lt p q = true then 1 else 0), I, J, va_up ri 331 f, rj, rq)) : ∀ (Q : List Nat) (n : Nat) (x : Int32) (f : Nat → Int32), x.toInt = (Q.length : Int) → Q.length < n → Q.length ≤ 40 → RWq f Q → (∀ q, q ∈ Q → q < 40) → ∃ f' : Nat → Int32, g_X3_line_331_L78 I J rj rq tI tR w cl xi k xp n x (va_up ri 331 f) = k (xi + Int32.ofInt 1) (va_up ri 331 f') ∧ RWq f' (rins lt p Q) ∧ ∀ i, Q.length < i → f' i = f i := by
  have k0 : (0 : Int32).toInt = 0 := by decide
  intro Q
  induction Q with
  | nil =>
    intro n x f hx hn _ _ _
    have hl : ([] : List Nat).length = 0 := rfl
    obtain ⟨n, rfl⟩ : ∃ k, n = k + 1 := ⟨n - 1, by omega⟩
    rw [g_X3_line_331_L78_e, if_pos (show x ≤ 0 from Int32.le_iff_toInt_le.mpr (by rw [k0]; omega)), g_X3_line_331_K121_e]
    simp only [↓ap1_n, va_up_self, up_up]
    rw [at_n hx]
    exact ⟨_, rfl, ⟨by rw [show ([] : List Nat).length = 0 from rfl, upd_s]; exact hp, trivial⟩, fun i hi => upd_n _ _ (by omega)⟩
  | cons q Q ih =>
    intro n x f hx hn h40 hf hq
    have hl : (q :: Q).length = Q.length + 1 := rfl
    obtain ⟨n, rfl⟩ : ∃ k, n = k + 1 := ⟨n - 1, by omega⟩
    have n0 : ¬ x ≤ 0 := fun z => by
      have := Int32.le_iff_toInt_le.mp z
      rw [k0] at this
      omega
    have x1 : (x - 1).toNatClampNeg = Q.length := at_n ((i_sub hx (show (1 : Int32).toInt = 1 by decide) (by omega) (by omega)).trans (by omega))
    rw [g_X3_line_331_L78_e, if_neg n0]
    simp only [↓ap1_n, va_up_self, up_up]
    rw [x1, at_n hx, bn_n (hA f _ q hf.1 (hq q (List.mem_cons_self ..)))]
    have er : rins lt p (q :: Q) = (if lt p q = true then q :: rins lt p Q else p :: q :: Q) := rfl
    rw [er]
    by_cases c : lt p q = true
    · rw [if_pos c, if_neg (show ¬ (1 : Int32) = 0 by decide), if_pos c]
      have hx2 : (x + Int32.ofInt (-1)).toInt = (Q.length : Int) := (dn_i (by omega) (by omega)).trans (by omega)
      obtain ⟨f', g1, g2, g3⟩ := ih n (x + Int32.ofInt (-1)) (upd f (q :: Q).length (f Q.length)) hx2 (by omega) (by omega) (RWq_u Q hf.2 (fun i hi => upd_n _ _ (by omega))) (fun r hr => hq r (List.mem_cons_of_mem _ hr))
      refine ⟨f', g1, ⟨?_, g2⟩, fun i hi => ?_⟩
      · rw [rins_l, g3 _ (by omega), ← hl, upd_s]
        exact hf.1
      · rw [g3 i (by omega)]
        exact upd_n _ _ (by omega)
    · rw [if_neg c, if_pos (show (0 : Int32) = 0 from rfl), if_neg c, g_X3_line_331_K121_e]
      simp only [↓ap1_n, va_up_self, up_up]
      rw [at_n hx]
      exact ⟨_, rfl, ⟨by rw [upd_s]; exact hp, RWq_u (q :: Q) hf (fun i hi => upd_n _ _ (by omega))⟩, fun i hi => upd_n _ _ (by omega)⟩
/-- the class: all of the queue -/
theorem li_60 {w N : Nat} {cl xN : Int32} {lt : Nat → Nat → Bool} (hN : xN.toInt = (N : Int)) (hN40 : N ≤ 40) (hA : ∀ (f : Nat → Int32) (x y : Int32) (p q : Nat), x.toInt = (p : Int) → y.toInt = (q : Int) → p < 40 → q < 40 → g_X8_isAhead tI tR w cl x y I J (va_up ri 331 f) rj rq = ((if lt p q = true then 1 else 0), I, J, va_up ri 331 f, rj, rq)) : ∀ (n i : Nat) (x : Int32) (f : Nat → Int32), x.toInt = (i : Int) → 40 - i < n → (i ≤ N ∨ N = 0) → RWq f (srt lt (if N = 0 then 0 else i)) → (∀ j, i ≤ j → j < N → (f j).toInt = (j : Int)) → ∃ f' : Nat → Int32, g_X3_line_331_L60 I J rj rq xN tI tR w cl n x (va_up ri 331 f) = (I, J, va_up ri 331 f', rj, rq) ∧ RWq f' (srt lt N) := by
  intro n
  induction n with
  | zero => intro i x f _ h; exact absurd h (Nat.not_lt_zero _)
  | succ n ih =>
    intro i x f hx hn hi hf hid
    rw [g_X3_line_331_L60_e]
    by_cases c : xN ≤ x
    · have c1 := (le_n hN hx).mp c
      rw [if_pos c]
      refine ⟨f, rfl, ?_⟩
      by_cases z : N = 0
      · rw [z] at hf ⊢
        rw [if_pos rfl] at hf
        exact hf
      · rw [if_neg z, show i = N by omega] at hf
        exact hf
    · have c1 : ¬ N ≤ i := fun y => c ((le_n hN hx).mpr y)
      have z : ¬ N = 0 := by omega
      rw [if_neg z] at hf
      rw [if_neg c]
      simp only [↓ap1_n, va_up_self]
      rw [at_n hx]
      have sl := srt_l (lt := lt) i
      obtain ⟨f', g1, g2, g3⟩ := li_78 (I := I) (J := J) (ri := ri) (rj := rj) (rq := rq) (tI := tI) (tR := tR) (w := w) (cl := cl) (xi := x) (lt := lt) (p := i) (k := g_X3_line_331_L60 I J rj rq xN tI tR w cl n) (hid i (Nat.le_refl _) (by omega)) (fun f y q hy hq => hA f _ y i q (hid i (Nat.le_refl _) (by omega)) hy (by omega) hq) (srt lt i) ((x.toInt - 0).toNat + 1) x f (by rw [sl]; exact hx) (by rw [sl, hx]; omega) (by omega) hf (fun q hq => by have := srt_m i q hq; omega)
      rw [g1]
      refine ih (i + 1) _ f' (up_i hx (by omega)) (by omega) (Or.inl (by omega)) (by rw [if_neg z]; exact g2) (fun j h1 h2 => ?_)
      rw [g3 j (by omega)]
      exact hid j (by omega) h2
/-- the class's queue at first -/
theorem li_15 {a mo xN : Int32} {N : Nat} (hN : xN.toInt = (N : Int)) (hN40 : N ≤ 40) : ∀ (n i : Nat) (x : Int32) (f : Nat → Int32), x.toInt = (i : Int) → 40 - i < n → i ≤ N → (∀ j, j < i → (f j).toInt = (j : Int)) → ∃ f' : Nat → Int32, (∀ j, j < N → (f' j).toInt = (j : Int)) ∧ g_X3_line_331_L15 a mo I J rj rq xN tI tR n x (va_up ri 331 f) = (bnI (g_X3_textFor tI tR a mo I J (va_up ri 331 f') rj rq) fun (o : Option Nat) (_ : Nat → Int32) (_ : Nat → Int64) (_ : Nat → Nat → Int32) (_ : Nat → Nat → Int64) (_ : Nat → Nat → Option Nat) => opt1 o (I, J, va_up ri 331 f', rj, rq) fun (w : Nat) => bnI (g_X8_firstOf tI tR w a I J (va_up ri 331 f') rj rq) fun (c : Int32) (_ : Nat → Int32) (_ : Nat → Int64) (_ : Nat → Nat → Int32) (_ : Nat → Nat → Int64) (_ : Nat → Nat → Option Nat) => g_X3_line_331_L60 I J rj rq xN tI tR w c ((40 - ((1 : Int32)).toInt).toNat + 1) (1 : Int32) (va_up ri 331 f')) := by
  intro n
  induction n with
  | zero => intro i x f _ h; exact absurd h (Nat.not_lt_zero _)
  | succ n ih =>
    intro i x f hx hn hi hf
    rw [g_X3_line_331_L15_e]
    by_cases c : xN ≤ x
    · have c1 := (le_n hN hx).mp c
      rw [if_pos c]
      exact ⟨f, fun j hj => hf j (by omega), rfl⟩
    · have c1 : ¬ N ≤ i := fun y => c ((le_n hN hx).mpr y)
      rw [if_neg c]
      simp only [↓ap1_n, va_up_self, up_up]
      rw [at_n hx]
      refine ih (i + 1) _ (upd f i x) (up_i hx (by omega)) (by omega) (by omega) (fun j hj => ?_)
      by_cases e : j = i
      · rw [e, upd_s]; exact hx
      · rw [upd_n _ _ e]; exact hf j (by omega)
theorem RWq_id {f : Nat → Int32} : ∀ N : Nat, (∀ j, j < N → (f j).toInt = (j : Int)) → RWq f (srt (fun _ _ => false) N)
  | 0, _ => trivial
  | N + 1, h => by
    have e : srt (fun _ _ => false) (N + 1) = N :: srt (fun _ _ => false) N := rins_e _ (fun _ _ => rfl)
    rw [e]
    exact ⟨by rw [srt_l]; exact h N (Nat.lt_succ_self _), RWq_id N (fun j hj => h j (by omega))⟩
/-- the queue of the class; how the reference compares -/
theorem line_v {a mo : Int32} {N : Nat} (ha : a.toInt = 4 ∨ a.toInt = 5) (hT : TXS I rq tI tR (si 384)) (hF : FCS I ri (si 384)) (hK : FLK I ri (si 384)) (hN : (I 0).toInt = (N : Int)) : ∃ (o : Option (List Int32)) (f : Nat → Int32) (K : Int32), g_X3_line_331 tI tR a mo I J ri rj rq = (I, J, va_up ri 331 f, rj, rq) ∧ RWq f (srt (ltk (si 384) o) N) ∧ g_X12_keysFor (srC a) mo U V si sj sq = ((if o = none then 0 else 1), va_up U 406 K, V, si, sj, sq) ∧ ∀ E, o = some E → ∀ (U1 : Nat → Int32) (s : Nat → Nat → Int32) (m : Nat → Nat → Int64) (mo2 x y : Int32) (p q : Nat), U1 406 = K → s 384 = si 384 → x.toInt = (p : Int) → y.toInt = (q : Int) → p < 40 → q < 40 → g_X12_isAhead x y mo2 U1 V s m sq = ((if ahd (si 384) E p q = true then 1 else 0), U1, V, s, m, sq) := by
  have k0 : (0 : Int32).toInt = 0 := by decide
  have hK' := hK
  obtain ⟨i0, ⟨n0, n40⟩, _⟩ := hK'
  have i0n : (I 0).toInt = (si 384 5).toInt := congrArg Int32.toInt i0
  have c40 : (if (40 : Int32) < I 0 then 40 else I 0) = I 0 := if_neg (fun q => by
    have := Int32.lt_iff_toInt_lt.mp q
    have k40 : (40 : Int32).toInt = 40 := by decide
    omega)
  have pr : ∀ f p, p < 40 → PRW (va_up ri 331 f) (si 384) p := fun f p hp => by
    obtain ⟨a1, a2, a3, a4⟩ := FLK_p hK hp
    exact ⟨by rw [va_up_ne _ _ (show (1 : Nat) ≠ 331 by decide)]; exact a1, by rw [va_up_ne _ _ (show (2 : Nat) ≠ 331 by decide)]; exact a2, by rw [va_up_ne _ _ (show (3 : Nat) ≠ 331 by decide)]; exact a3, by rw [va_up_ne _ _ (show (5 : Nat) ≠ 331 by decide)]; exact a4⟩
  obtain ⟨f1, e1, e2⟩ := li_15 (I := I) (J := J) (ri := ri) (rj := rj) (rq := rq) (tI := tI) (tR := tR) (a := a) (mo := mo) hN (by omega) ((40 - (0 : Int32).toInt).toNat + 1) 0 0 (ri 331) k0 (by rw [k0]; omega) (Nat.zero_le _) (fun j hj => absurd hj (Nat.not_lt_zero _))
  rw [up_id] at e2
  rw [g_X3_line_331_e]
  simp only [↓ap1_n]
  rw [c40, e2]
  have hF1 : FCS I (va_up ri 331 f1) (si 384) := FCS_cg hF rfl (fun t ht j _ => by rw [va_up_ne _ _ (fun q : t = 331 => by rw [q] at ht; exact absurd ht (by decide))]) rfl (fun _ _ _ => rfl) (Int.le_refl _)
  rcases kf_v (I := I) (J := J) (ri := va_up ri 331 f1) (rj := rj) (rq := rq) (U := U) (V := V) (si := si) (sj := sj) (sq := sq) (tI := tI) (tR := tR) (mo := mo) ha hT hF1 with ⟨t1, t2⟩ | ⟨w, cl, K, E, t1, t2, t3, t4, t5⟩
  · refine ⟨none, f1, -1, ?_, RWq_id N e1, by rw [if_pos rfl]; exact t2, fun E h => by cases h⟩
    rw [bn_n t1, opt1_0]
  · obtain ⟨f2, g1, g2⟩ := li_60 (I := I) (J := J) (ri := ri) (rj := rj) (rq := rq) (tI := tI) (tR := tR) (w := w) (cl := cl) (xN := I 0) (lt := ahd (si 384) E) hN (by omega) (fun f x y p q hx hy hp hq => t4 _ x y p q hx hy (pr f p hp) (pr f q hq)) ((40 - (1 : Int32).toInt).toNat + 1) 1 1 f1 (by decide) (by decide) (by omega) (by
      by_cases z : N = 0
      · rw [if_pos z]; exact trivial
      · rw [if_neg z]
        exact ⟨e1 0 (by omega), trivial⟩) (fun j _ h2 => e1 j h2)
    refine ⟨some E, f2, K, ?_, g2, by rw [if_neg (by simp)]; exact t3, fun E2 h => ?_⟩
    · rw [bn_n t1, opt1_s, bn_n t2]
      exact g1
    · rw [← Option.some.inj h]
      exact t5
end PK4
