/-! ===== pure: a month of the reference; both sides go on alike ===== -/
section PU10
variable {I : Nat → Int32} {J : Nat → Int64} {ri : Nat → Nat → Int32} {rj : Nat → Nat → Int64} {rq : Nat → Nat → Option Nat}
variable {U : Nat → Int32} {V : Nat → Int64} {si : Nat → Nat → Int32} {sj : Nat → Nat → Int64} {sq : Nat → Nat → Option Nat}
/-- SEAS and LAND of a country: the class's and the reference's row -/
def RLV (I : Nat → Int32) (ri : Nat → Nat → Int32) (A : Nat → Int32) : Prop := LVR (ri 225) (ri 226) (ri 227) (ri 228) (A5 A 0) (A5 A 1) (A5 A 2) (A5 A 3) (A5 A 4) (I 224).toNatClampNeg
def RTB (I : Nat → Int32) (ri : Nat → Nat → Int32) (A : Nat → Int32) : Prop := (∀ j, j < 12 → ri 229 j = A (20 + 5 * j + 0) ∧ ri 230 j = A (20 + 5 * j + 1) ∧ ri 231 j = A (20 + 5 * j + 2) ∧ ri 232 j = A (20 + 5 * j + 3)) ∧ I 234 = A 13 ∧ I 235 = A 14 ∧ I 236 = A 15
def RLD (ri : Nat → Nat → Int32) (A : Nat → Int32) : Prop := ∀ c, c < 40 → A (100 + 16 * c) = ri 69 c ∧ A (100 + 16 * c + 1) = ri 70 c ∧ A (100 + 16 * c + 4) = ri 73 c ∧ A (100 + 16 * c + 5) = ri 74 c ∧ A (100 + 16 * c + 6) = ri 75 c ∧ 0 ≤ (ri 75 c).toInt
def RCN (I : Nat → Int32) (A : Nat → Int32) : Prop := I 320 = A 0 ∧ I 64 = A 1 ∧ I 65 = A 2 ∧ I 224 = A 3
def RMX (A : Nat → Int32) : Prop := (0 ≤ (A 1).toInt ∧ (A 1).toInt ≤ 5) ∧ (0 ≤ (A 5).toInt ∧ (A 5).toInt ≤ 40) ∧ (A 4).toInt ≤ 5
def NX (I : Nat → Int32) (ri : Nat → Nat → Int32) : Prop := NXT (ri 79) (ri 69) (I 65).toNatClampNeg ∧ ∀ j, (I 65).toNatClampNeg ≤ j → j < 40 → ri 79 j = -1
def RSL (I : Nat → Int32) (ri : Nat → Nat → Int32) (A : Nat → Int32) : Prop := RN I ∧ RMX A ∧ RCN I A ∧ RLV I ri A ∧ RTB I ri A ∧ RLD ri A ∧ NX I ri
/-- a month of the reference: what becomes of SAND, REEF, DRY; what stands -/
theorem month_v {a0 : Int32} (h : RSL I ri (si 384)) (h6 : (I 320).toInt < 600) : ∃ (U1 : Nat → Int32) (s1 : Nat → Nat → Int32) (l1 : Nat → Nat → Int64), g_X12_month a0 U V si sj sq = (U1, V, s1, l1, sq) ∧ (∀ t, t ∉ [384, 405, 409, 411, 412] → s1 t = si t) ∧ (s1 384 0 = si 384 0 + 1) ∧ (∀ c, c < 40 → s1 384 (100 + 16 * c + 4) = sdN I ri c) ∧ (∀ c, c < 40 → s1 384 (100 + 16 * c + 5) = reN I ri c) ∧ (∀ c, c < (I 65).toNatClampNeg → s1 384 (100 + 16 * c + 12) = if dryN a0 I ri c = true then 1 else 0) ∧ (∀ i, (i ≠ 0 ∧ i ≠ 8 ∧ i ≠ 9 ∧ i ≠ 12 ∧ i ≠ 18) → (i < 2520 ∨ 3720 ≤ i) → (∀ c k, c < 40 → k ∈ [4, 5, 7, 9, 10, 11, 12, 13] → i ≠ 100 + 16 * c + k) → (∀ p k, p < 40 → k ∈ [3, 5, 6, 7] → i ≠ 740 + 12 * p + k) → s1 384 i = si 384 i) ∧ zk (si 384) (s1 384) := by
  obtain ⟨⟨⟨m0, m6⟩, ⟨c0, c4⟩, ⟨l0, l2⟩⟩, ⟨⟨r0, r5⟩, ⟨p0, p4⟩, q4⟩, ⟨e0, e1, e2, e3⟩, hlv, ⟨htb, hb, hg, hd⟩, hld, hnx⟩ := h
  have k0 : (0 : Int32).toNatClampNeg = 0 := by decide
  have tm := tmod_r (m := I 320) m0 (by omega)
  have ztm := clampE (tmod (I 320))
  have tmS : 0 ≤ (tmod (si 384 0)).toInt ∧ (tmod (si 384 0)).toInt ≤ 11 := by rw [← e0]; exact tm
  have ztS := clampE (tmod (si 384 0))
  have hT := htb (tmod (I 320)).toNatClampNeg (by omega)
  rw [e0] at m0 m6 h6
  rw [e2] at c0 c4
  rw [e3] at l0 l2
  rw [g_X12_month_e]
  simp only [↓ap1_n]
  -- REEF
  obtain ⟨A1, ev1, z1, v1⟩ := reefGoes_v (I := U) (J := V) (ri := si) (rj := sj) (rq := sq) (m := si 384 (0 : Int32).toNatClampNeg) (by rw [k0]; exact m0) (by rw [k0]; omega) c0 c4
  rw [ev1]
  simp only [bnV_u]
  rw [k0] at v1 ⊢
  have f1 : ∀ i, (∀ c, c < 40 → i ≠ 100 + 16 * c + 5) → va_up si 384 A1 384 i = si 384 i := fun i hi => by rw [va_up_self]; exact z1 i hi
  have re1 : ∀ c, c < 40 → va_up si 384 A1 384 (100 + 16 * c + 5) = reN I ri c := fun c hc => by
    rw [va_up_self, v1 c hc]
    unfold reN
    rw [(hld c hc).2.2.2.1, e2]
    have er : rfm (si 384) (tmod (si 384 0)).toNatClampNeg = rfN I ri := by
      unfold rfm rfN
      rw [hb, hg, hd, hT.2.2.1, ← e0]
    rw [er]
  -- SAND
  have c2' : va_up si 384 A1 384 2 = I 65 := (f1 2 (fun c _ => by omega)).trans e2.symm
  obtain ⟨g, A2, ev2, z2, v2⟩ := sandGoes_v (I := U) (J := V) (ri := va_up si 384 A1) (rj := sj) (rq := sq) (m := si 384 0) (nx := ri 79) (s := ri 73) (w := ri 75) (rg := ri 69) m0 (by omega) (by rw [c2', e2]; exact c0) (by rw [c2', e2]; exact c4) (by rw [c2']; exact hnx.1) (fun c hc => (f1 _ (fun c2 _ => by omega)).trans (hld c hc).1) (fun c hc => (f1 _ (fun c2 _ => by omega)).trans (hld c hc).2.2.1) (fun c hc => ⟨(f1 _ (fun c2 _ => by omega)).trans (hld c hc).2.2.2.2.1, (hld c hc).2.2.2.2.2⟩)
  rw [ev2]
  simp only
  generalize hS2 : va_up (va_up (va_up si 384 A1) 409 g) 384 A2 = S2
  have S2a : S2 384 = A2 := by rw [← hS2, va_up_self]
  have S2o : ∀ t, t ≠ 384 → t ≠ 409 → S2 t = si t := fun t h1 h2 => by rw [← hS2, va_up_ne _ _ h1, va_up_ne _ _ h2, va_up_ne _ _ h1]
  have f2 : ∀ i, i ≠ 9 → (∀ c k, c < 40 → k ∈ [4, 5] → i ≠ 100 + 16 * c + k) → S2 384 i = si 384 i := fun i h9 hi => by
    rw [S2a, z2 i h9 (fun c hc => hi c 4 hc (by decide))]
    exact f1 i (fun c hc => hi c 5 hc (by decide))
  have sd2 : ∀ c, c < 40 → S2 384 (100 + 16 * c + 4) = sdN I ri c := fun c hc => by
    rw [S2a, v2 c hc, c2', f1 _ (fun c2 _ => by omega)]
    unfold sdN
    rw [hT.2.2.2, e0]
  have re2 : ∀ c, c < 40 → S2 384 (100 + 16 * c + 5) = reN I ri c := fun c hc => by
    rw [S2a, z2 _ (by omega) (fun c2 _ => by omega)]
    exact re1 c hc
  -- the LEVEL
  have n3 : S2 384 3 = I 224 := (f2 3 (by decide) (fun c k _ hk => by simp only [List.mem_cons, List.not_mem_nil, or_false] at hk; omega)).trans e3.symm
  have hlvl : g_X12_levelAt a0 (si 384 0) (si 384 0) U V S2 sj sq = (lvN a0 I ri, U, V, S2, sj, sq) := by
    rw [levelAt_v (by rw [n3, e3]; exact l0) (by rw [n3, e3]; exact l2), n3]
    have a5 : ∀ o, o ≤ 4 → ∀ k, k < 200 → A5 (S2 384) o k = A5 (si 384) o k := fun o ho k hk => f2 _ (by omega) (fun c k2 _ hk2 => by simp only [List.mem_cons, List.not_mem_nil, or_false] at hk2; omega)
    have hn2 : (I 224).toNatClampNeg ≤ 200 := by
      have z := clampE (I 224)
      rw [e3] at z ⊢
      omega
    have hL : LVR (ri 225) (ri 226) (ri 227) (ri 228) (A5 (S2 384) 0) (A5 (S2 384) 1) (A5 (S2 384) 2) (A5 (S2 384) 3) (A5 (S2 384) 4) (I 224).toNatClampNeg := fun k hk => by
      rw [a5 0 (by decide) k (by omega), a5 1 (by decide) k (by omega), a5 2 (by decide) k (by omega), a5 3 (by decide) k (by omega), a5 4 (by decide) k (by omega)]
      exact hlv k hk
    rw [← fin_eq hL, ← e0]
    rfl
  rw [hlvl]
  simp only [bnI_u]
  -- the tides
  have S22 : S2 384 2 = I 65 := (f2 2 (by decide) (fun c k _ hk => by simp only [List.mem_cons, List.not_mem_nil, or_false] at hk; omega)).trans e2.symm
  obtain ⟨A3, ev3, z3, v3⟩ := seaStands_v (I := U) (J := V) (ri := S2) (rj := sj) (rq := sq) (m := si 384 0) (lv := lvN a0 I ri) m0 h6 (by rw [S22, e2]; exact c0) (by rw [S22, e2]; exact c4)
  rw [ev3]
  simp only
  have f3 : ∀ i, i ≠ 9 → (i < 2520 ∨ 3720 ≤ i) → (∀ c k, c < 40 → k ∈ [4, 5, 7, 9, 10, 11, 12, 13] → i ≠ 100 + 16 * c + k) → A3 i = si 384 i := fun i h9 hr hi => by
    rw [z3 i hr (fun c k hc hk => hi c k hc (by simp only [List.mem_cons, List.not_mem_nil, or_false] at hk ⊢; omega))]
    exact f2 i h9 (fun c k hc hk => hi c k hc (by simp only [List.mem_cons, List.not_mem_nil, or_false] at hk ⊢; omega))
  have sd3 : ∀ c, c < 40 → A3 (100 + 16 * c + 4) = sdN I ri c := fun c hc => by
    rw [z3 _ (Or.inl (by omega)) (fun c2 k h2 hk => by simp only [List.mem_cons, List.not_mem_nil, or_false] at hk; omega)]; exact sd2 c hc
  have re3 : ∀ c, c < 40 → A3 (100 + 16 * c + 5) = reN I ri c := fun c hc => by
    rw [z3 _ (Or.inl (by omega)) (fun c2 k h2 hk => by simp only [List.mem_cons, List.not_mem_nil, or_false] at hk; omega)]; exact re2 c hc
  have small : ∀ i, i < 20 → i ≠ 9 → A3 i = si 384 i := fun i hi h9 => f3 i h9 (Or.inl (by omega)) (fun c k _ _ => by omega)
  have dr3 : ∀ c, c < (I 65).toNatClampNeg → A3 (100 + 16 * c + 12) = if dryN a0 I ri c = true then 1 else 0 := fun c hc => by
    have zc := clampE (I 65)
    have hc40 : c < 40 := by rw [e2] at zc hc; omega
    rw [v3 c (by rw [S22]; exact hc)]
    have et : topA (S2 384) c = topS (ri 70) (sdN I ri) (reN I ri) (ri 75) c := by
      unfold topA topS
      rw [sd2 c hc40, re2 c hc40, f2 _ (by omega) (fun c2 k h2 hk => by simp only [List.mem_cons, List.not_mem_nil, or_false] at hk; omega), f2 _ (by omega) (fun c2 k h2 hk => by simp only [List.mem_cons, List.not_mem_nil, or_false] at hk; omega), (hld c hc40).2.1, (hld c hc40).2.2.2.2.1]
    have eh : S2 384 (20 + 5 * (tmod (si 384 0)).toNatClampNeg + 1) = ri 230 (tmod (I 320)).toNatClampNeg := by
      rw [← e0, f2 _ (by omega) (fun c2 k h2 hk => by simp only [List.mem_cons, List.not_mem_nil, or_false] at hk; omega)]
      exact hT.2.1.symm
    rw [et, eh]
    unfold dryN
    by_cases q : topS (ri 70) (sdN I ri) (reN I ri) (ri 75) c ≤ lvN a0 I ri + ri 230 (tmod (I 320)).toNatClampNeg
    · rw [if_pos q, if_neg (fun y => (of_decide_eq_true y).2 q)]
    · rw [if_neg q, if_pos (decide_eq_true ⟨hc, q⟩)]
  -- drinking, sleep, THE FUND
  have B1 : va_up S2 384 A3 384 1 = si 384 1 := by rw [va_up_self]; exact small 1 (by decide) (by decide)
  have B2 : va_up S2 384 A3 384 2 = si 384 2 := by rw [va_up_self]; exact small 2 (by decide) (by decide)
  have B5 : va_up S2 384 A3 384 5 = si 384 5 := by rw [va_up_self]; exact small 5 (by decide) (by decide)
  obtain ⟨A4, ev4, z4⟩ := drink_f (I := U) (J := V) (ri := va_up S2 384 A3) (rj := sj) (rq := sq) (by rw [B2]; exact c0) (by rw [B2]; exact c4) (by rw [B5]; exact p4)
  rw [va_up_self] at z4
  rw [ev4, up_up]
  simp only
  have cnt : ∀ A : Nat → Int32, zm A3 A → ∀ i, i = 1 ∨ i = 2 ∨ i = 5 ∨ i = 4 → va_up S2 384 A 384 i = si 384 i := fun A hA i hi => by
    rw [va_up_self, hA.1 i (by omega) (fun c _ => by omega) (fun p k _ _ => by omega)]
    exact small i (by omega) (by omega)
  obtain ⟨A5', ev5, z5⟩ := sleep_f (I := U) (J := V) (ri := va_up S2 384 A4) (rj := sj) (rq := sq) (by rw [cnt A4 z4 1 (Or.inl rfl)]; exact r5) (by rw [cnt A4 z4 2 (Or.inr (Or.inl rfl))]; exact c4) (by rw [cnt A4 z4 5 (Or.inr (Or.inr (Or.inl rfl)))]; exact p4)
  rw [va_up_self] at z5
  rw [ev5, up_up]
  simp only
  have z45 := zm_tr z4 z5
  obtain ⟨U2, A6, ev6, z6, hU2⟩ := fundGoes_f (I := U) (J := V) (ri := va_up S2 384 A5') (rj := sj) (rq := sq) (m := si 384 0) (by rw [cnt A5' z45 2 (Or.inr (Or.inl rfl))]; exact c4) (by rw [cnt A5' z45 5 (Or.inr (Or.inr (Or.inl rfl)))]; exact p4)
  rw [va_up_self] at z6
  rw [ev6, up_up]
  simp only
  have z46 := zm_tr z45 z6
  obtain ⟨U3, S7, L7, ev7, _, o7, z7⟩ := boatsGo_f (I := U2) (J := V) (ri := va_up S2 384 A6) (rj := sj) (rq := sq) (m := si 384 0) (by rw [cnt A6 z46 5 (Or.inr (Or.inr (Or.inl rfl)))]; exact p4) (by rw [cnt A6 z46 4 (Or.inr (Or.inr (Or.inr rfl)))]; exact q4)
  rw [va_up_self] at z7
  rw [ev7]
  simp only
  have z47 := zm_tr z46 z7
  refine ⟨U3, _, L7, rfl, fun t ht => ?_, ?_, fun c hc => ?_, fun c hc => ?_, fun c hc => ?_, fun i hi hr hcl hpe => ?_, fun p hp => ?_, ?_⟩
  · simp only [List.mem_cons, List.not_mem_nil, or_false, not_or] at ht
    rw [va_up_ne _ _ ht.1, o7 t (by simp only [List.mem_cons, List.not_mem_nil, or_false, not_or]; exact ⟨ht.1, ht.2.1, ht.2.2.2.1, ht.2.2.2.2⟩), va_up_ne _ _ ht.1]
    exact S2o t ht.1 ht.2.2.1
  · rw [va_up_self, upd_s]
  · rw [va_up_self, upd_n _ _ (by omega), z47.1 _ (by omega) (fun c2 _ => by omega) (fun p k _ _ => by omega)]; exact sd3 c hc
  · rw [va_up_self, upd_n _ _ (by omega), z47.1 _ (by omega) (fun c2 _ => by omega) (fun p k _ _ => by omega)]; exact re3 c hc
  · have zc := clampE (I 65)
    have hc40 : c < 40 := by rw [e2] at zc hc; omega
    rw [va_up_self, upd_n _ _ (by omega), z47.1 _ (by omega) (fun c2 _ => by omega) (fun p k _ _ => by omega)]; exact dr3 c hc
  · rw [va_up_self, upd_n _ _ hi.1, z47.1 i ⟨hi.2.1, hi.2.2.2.1, hi.2.2.2.2⟩ (fun c hc => hcl c 9 hc (by decide)) hpe]
    exact f3 i hi.2.2.1 hr hcl
  · rw [va_up_self, upd_n _ _ (by omega)]
    have q := z47.2 p hp
    rw [f3 (740 + 12 * p + 3) (by omega) (Or.inl (by omega)) (fun c k hc hk => by simp only [List.mem_cons, List.not_mem_nil, or_false] at hk; omega)] at q
    exact q
  · rw [va_up_self, upd_n _ _ (by decide), z47.1 5 (by decide) (fun c _ => by omega) (fun p k _ _ => by omega)]
    exact small 5 (by decide) (by decide)
/-- a month goes by on both sides -/
theorem RL_month {a0 : Int32} {I1 : Nat → Int32} {r1 s1 : Nat → Nat → Int32} (h : RSL I ri (si 384)) (h6 : (I 320).toInt < 600) (hI : ∀ f, f ∈ [64, 65, 224, 234, 235, 236] → I1 f = I f) (hI0 : I1 320 = I 320 + 1) (h73 : r1 73 = sdN I ri) (h74 : r1 74 = reN I ri) (hr : ∀ t, t ∈ [69, 70, 75, 79, 225, 226, 227, 228, 229, 230, 231, 232] → r1 t = ri t) (s0 : s1 384 0 = si 384 0 + 1) (s4 : ∀ c, c < 40 → s1 384 (100 + 16 * c + 4) = sdN I ri c) (s5 : ∀ c, c < 40 → s1 384 (100 + 16 * c + 5) = reN I ri c) (so : ∀ i, (i ≠ 0 ∧ i ≠ 8 ∧ i ≠ 9 ∧ i ≠ 12 ∧ i ≠ 18) → (i < 2520 ∨ 3720 ≤ i) → (∀ c k, c < 40 → k ∈ [4, 5, 7, 9, 10, 11, 12, 13] → i ≠ 100 + 16 * c + k) → (∀ p k, p < 40 → k ∈ [3, 5, 6, 7] → i ≠ 740 + 12 * p + k) → s1 384 i = si 384 i) : RSL I1 r1 (s1 384) := by
  obtain ⟨⟨⟨m0, m6⟩, hc, hl⟩, hmx, ⟨e0, e1, e2, e3⟩, hlv, ⟨htb, hb, hg, hd⟩, hld, hnx⟩ := h
  have sm : ∀ i, i < 100 → i ≠ 0 → i ≠ 8 → i ≠ 9 → i ≠ 12 → i ≠ 18 → s1 384 i = si 384 i := fun i hi a b c d e => so i ⟨a, b, c, d, e⟩ (Or.inl (by omega)) (fun _ _ _ _ => by omega) (fun _ _ _ _ => by omega)
  have q0 : (I 320 + 1).toInt = (I 320).toInt + 1 := t1_one (by omega) (by omega)
  have f64 := hI 64 (by decide)
  have f65 := hI 65 (by decide)
  have f224 := hI 224 (by decide)
  refine ⟨⟨⟨by rw [hI0, q0]; omega, by rw [hI0, q0]; omega⟩, by rw [f65]; exact hc, by rw [f224]; exact hl⟩, ⟨by rw [sm 1 (by decide) (by decide) (by decide) (by decide) (by decide) (by decide)]; exact hmx.1, by rw [sm 5 (by decide) (by decide) (by decide) (by decide) (by decide) (by decide)]; exact hmx.2.1, by rw [sm 4 (by decide) (by decide) (by decide) (by decide) (by decide) (by decide)]; exact hmx.2.2⟩, ⟨by rw [hI0, s0, e0], by rw [f64, sm 1 (by decide) (by decide) (by decide) (by decide) (by decide) (by decide)]; exact e1, by rw [f65, sm 2 (by decide) (by decide) (by decide) (by decide) (by decide) (by decide)]; exact e2, by rw [f224, sm 3 (by decide) (by decide) (by decide) (by decide) (by decide) (by decide)]; exact e3⟩, ?_, ?_, ?_, ?_⟩
  · have a5 : ∀ o, o ≤ 4 → ∀ k, k < 200 → A5 (s1 384) o k = A5 (si 384) o k := fun o ho k hk => so _ (by omega) (Or.inl (by omega)) (fun c k2 _ hk2 => by simp only [List.mem_cons, List.not_mem_nil, or_false] at hk2; omega) (fun p k2 _ hk2 => by simp only [List.mem_cons, List.not_mem_nil, or_false] at hk2; omega)
    have zn := clampE (I 224)
    show LVR _ _ _ _ _ _ _ _ _ _
    rw [f224, hr 225 (by decide), hr 226 (by decide), hr 227 (by decide), hr 228 (by decide)]
    intro k hk
    rw [a5 0 (by decide) k (by omega), a5 1 (by decide) k (by omega), a5 2 (by decide) k (by omega), a5 3 (by decide) k (by omega), a5 4 (by decide) k (by omega)]
    exact hlv k hk
  · refine ⟨fun j hj => ?_, ?_, ?_, ?_⟩
    · rw [hr 229 (by decide), hr 230 (by decide), hr 231 (by decide), hr 232 (by decide), sm _ (by omega) (by omega) (by omega) (by omega) (by omega) (by omega), sm _ (by omega) (by omega) (by omega) (by omega) (by omega) (by omega), sm _ (by omega) (by omega) (by omega) (by omega) (by omega) (by omega), sm _ (by omega) (by omega) (by omega) (by omega) (by omega) (by omega)]
      exact htb j hj
    · rw [hI 234 (by decide), sm 13 (by decide) (by decide) (by decide) (by decide) (by decide) (by decide)]; exact hb
    · rw [hI 235 (by decide), sm 14 (by decide) (by decide) (by decide) (by decide) (by decide) (by decide)]; exact hg
    · rw [hI 236 (by decide), sm 15 (by decide) (by decide) (by decide) (by decide) (by decide) (by decide)]; exact hd
  · intro c hc
    have one : ∀ k, k ∈ [0, 1, 6] → s1 384 (100 + 16 * c + k) = si 384 (100 + 16 * c + k) := fun k hk => by
      simp only [List.mem_cons, List.not_mem_nil, or_false] at hk
      exact so _ (by omega) (Or.inl (by omega)) (fun c2 k2 _ hk2 => by simp only [List.mem_cons, List.not_mem_nil, or_false] at hk2; omega) (fun p k2 _ hk2 => by simp only [List.mem_cons, List.not_mem_nil, or_false] at hk2; omega)
    have o0 := one 0 (by decide)
    rw [Nat.add_zero] at o0
    rw [o0, one 1 (by decide), one 6 (by decide), s4 c hc, s5 c hc, hr 69 (by decide), hr 70 (by decide), hr 75 (by decide), h73, h74]
    have x := hld c hc
    exact ⟨x.1, x.2.1, rfl, rfl, x.2.2.2.2.1, x.2.2.2.2.2⟩
  · show NXT _ _ _ ∧ _
    rw [hr 79 (by decide), hr 69 (by decide), f65]
    exact hnx
end PU10
