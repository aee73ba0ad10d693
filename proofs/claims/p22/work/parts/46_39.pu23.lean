/-! ===== pure: a month of the reference up to THE FUND (behind pu22) ===== -/
section PU23
variable {I : Nat → Int32} {J : Nat → Int64} {ri : Nat → Nat → Int32} {rj : Nat → Nat → Int64} {rq : Nat → Nat → Option Nat}
variable {U : Nat → Int32} {V : Nat → Int64} {si : Nat → Nat → Int32} {sj : Nat → Nat → Int64} {sq : Nat → Nat → Option Nat}
/-- all but what drinking and sleep write -/
def zq (f g : Nat → Int32) : Prop := ∀ i, (∀ c, c < 40 → i ≠ 100 + 16 * c + 9) → (∀ p k, p < 40 → k ∈ [5, 6] → i ≠ 740 + 12 * p + k) → g i = f i
theorem zq_rf {f : Nat → Int32} : zq f f := fun _ _ _ => rfl
theorem zq_tr {f g h : Nat → Int32} (a : zq f g) (b : zq g h) : zq f h := fun i x y => (b i x y).trans (a i x y)
theorem zq_l {f : Nat → Int32} {c : Nat} {v : Int32} (hc : c < 40) : zq f (upd f (100 + 16 * c + 9) v) := fun i y _ => upd_n _ _ (y c hc)
theorem zq_p {f : Nat → Int32} {p k : Nat} {v : Int32} (hp : p < 40) (hk : k ∈ [5, 6]) : zq f (upd f (740 + 12 * p + k) v) := fun i _ z => upd_n _ _ (z p k hp hk)
theorem drink_q (h2a : 0 ≤ (ri 384 2).toInt) (h2b : (ri 384 2).toInt ≤ 40) (h5b : (ri 384 5).toInt ≤ 40) : ∃ B : Nat → Int32, g_X12_drink I J ri rj rq = (I, J, va_up ri 384 B, rj, rq) ∧ zq (ri 384) B := by
  have go : ∀ (n : Nat) (x : Int32) (A : Nat → Int32), 0 ≤ x.toInt → (40 - x.toInt).toNat < n → zq (ri 384) A → ∃ B : Nat → Int32, g_X12_drink_L2 I J ri rj rq n x (va_up ri 384 A) = (I, J, va_up ri 384 B, rj, rq) ∧ zq (ri 384) B := by
    intro n
    induction n with
    | zero => intro x A _ h; exact absurd h (Nat.not_lt_zero _)
    | succ n ih =>
      intro x A h1 h3 hA
      have zx := clampE x
      rw [g_X12_drink_L2_e]
      simp only [↓ap1_n]
      by_cases c : ri 384 5 ≤ x
      · rw [if_pos c]; exact ⟨A, rfl, hA⟩
      · have c1 := Int32.lt_iff_toInt_lt.mp (Int32.not_le.mp c)
        have e := t1_inc (x := x) (by omega) (by omega)
        rw [if_neg c, bn_p g_X12_isOnRing_f]
        split
        · simp only [g_X12_drink_K107, ↓ap1_n]
          exact ih _ _ (by omega) (by omega) hA
        · obtain ⟨y, hy0, hy⟩ := drink_to (I := I) (J := J) (rj := rj) (rq := rq) (ri := ri) (p := x) (k := g_X12_drink_L2 I J ri rj rq n) (r := va_up ri 384 A) h2b ((40 - (0 : Int32).toInt).toNat + 1) 0 (by decide) h2a (Nat.lt_succ_self _)
          rw [hy]
          simp only [g_X12_drink_K55, g_X12_drink_K107, ↓ap1_n, va_up_self, up_up]
          by_cases d : ri 384 2 ≤ y
          · rw [if_pos d, ixp (c := x) (k := 5) 5 (by decide) (by decide) h1 (by omega)]
            exact ih _ _ (by omega) (by omega) (zq_tr hA (zq_p (by omega) (by decide)))
          · have d1 := Int32.lt_iff_toInt_lt.mp (Int32.not_le.mp d)
            have zy := clampE y
            rw [if_neg d, ixk (c := y) (k := 9) 9 (by decide) (by decide) hy0 (by omega)]
            exact ih _ _ (by omega) (by omega) (zq_tr hA (zq_l (by omega)))
  rw [g_X12_drink_e]
  have h := go ((40 - (0 : Int32).toInt).toNat + 1) 0 (ri 384) (by decide) (Nat.lt_succ_self _) zq_rf
  rw [up_id] at h
  exact h
theorem sleep_q (h1b : (ri 384 1).toInt ≤ 5) (h2b : (ri 384 2).toInt ≤ 40) (h5b : (ri 384 5).toInt ≤ 40) : ∃ B : Nat → Int32, g_X12_sleep I J ri rj rq = (I, J, va_up ri 384 B, rj, rq) ∧ zq (ri 384) B := by
  have go : ∀ (n : Nat) (x : Int32) (A : Nat → Int32), 0 ≤ x.toInt → (5 - x.toInt).toNat < n → zq (ri 384) A → ∃ B : Nat → Int32, g_X12_sleep_L2 I J ri rj rq n x (va_up ri 384 A) = (I, J, va_up ri 384 B, rj, rq) ∧ zq (ri 384) B := by
    intro n
    induction n with
    | zero => intro x A _ h; exact absurd h (Nat.not_lt_zero _)
    | succ n ih =>
      intro x A h1 h3 hA
      rw [g_X12_sleep_L2_e]
      simp only [↓ap1_n]
      by_cases c : ri 384 1 ≤ x
      · rw [if_pos c]; exact ⟨A, rfl, hA⟩
      · have c1 := Int32.lt_iff_toInt_lt.mp (Int32.not_le.mp c)
        have e := t1_inc (x := x) (by omega) (by omega)
        rw [if_neg c]
        -- the PERSONS of a RING
        have inner : ∀ (m : Nat) (b p : Int32) (A : Nat → Int32), 0 ≤ p.toInt → (40 - p.toInt).toNat < m → zq (ri 384) A → ∃ B : Nat → Int32, g_X12_sleep_L58 I J ri rj rq x (g_X12_sleep_L2 I J ri rj rq n) m b p (va_up ri 384 A) = (I, J, va_up ri 384 B, rj, rq) ∧ zq (ri 384) B := by
          intro m
          induction m with
          | zero => intro b p A _ h; exact absurd h (Nat.not_lt_zero _)
          | succ m im =>
            intro b p A p1 p3 hA
            have zp := clampE p
            rw [g_X12_sleep_L58_e]
            simp only [↓ap1_n]
            by_cases c2 : ri 384 5 ≤ p
            · rw [if_pos c2]
              exact ih _ _ (by omega) (by omega) hA
            · have c3 := Int32.lt_iff_toInt_lt.mp (Int32.not_le.mp c2)
              have e2 := t1_inc (x := p) (by omega) (by omega)
              rw [if_neg c2, bn_p g_X12_personAt_c3_f]
              simp only [g_X12_sleep_K111, ↓ap1_n, va_up_self, up_up]
              split
              · split
                · rw [ixp (c := p) (k := 6) 6 (by decide) (by decide) p1 (by omega)]
                  exact im _ _ _ (by omega) (by omega) (zq_tr hA (zq_p (by omega) (by decide)))
                · exact im _ _ _ (by omega) (by omega) hA
              · exact im _ _ _ (by omega) (by omega) hA
        have beds : ∀ (m : Nat) (b y : Int32), 0 ≤ y.toInt → (40 - y.toInt).toNat < m → ∃ B : Nat → Int32, g_X12_sleep_L16 I J ri rj rq x (va_up ri 384 A) (g_X12_sleep_L2 I J ri rj rq n) m b y = (I, J, va_up ri 384 B, rj, rq) ∧ zq (ri 384) B := by
          intro m
          induction m with
          | zero => intro b y _ h; exact absurd h (Nat.not_lt_zero _)
          | succ m im =>
            intro b y y1 y3
            rw [g_X12_sleep_L16_e]
            simp only [↓ap1_n]
            by_cases c2 : ri 384 2 ≤ y
            · rw [if_pos c2]
              exact inner _ _ _ _ (by decide) (Nat.lt_succ_self _) hA
            · have c3 := Int32.lt_iff_toInt_lt.mp (Int32.not_le.mp c2)
              have e2 := t1_inc (x := y) (by omega) (by omega)
              rw [if_neg c2, bn_p g_X12_cellAt_c0_f]
              simp only [g_X12_sleep_K48, ↓ap1_n]
              split
              · rw [bn_p g_X12_cellAt_c7_f]
                exact im _ _ (by omega) (by omega)
              · exact im _ _ (by omega) (by omega)
        exact beds _ _ _ (by decide) (Nat.lt_succ_self _)
  rw [g_X12_sleep_e]
  have h := go ((5 - (0 : Int32).toInt).toNat + 1) 0 (ri 384) (by decide) (Nat.lt_succ_self _) zq_rf
  rw [up_id] at h
  exact h
/-- a month of the reference up to THE FUND -/
theorem month_q {a0 : Int32} (h : RSL I ri (si 384)) (h6 : (I 320).toInt < 600) : ∃ S : Nat → Nat → Int32, g_X12_month a0 U V si sj sq = (bnV (g_X12_fundGoes (si 384 0) U V S sj sq) fun U2 _ S2 _ _ => bnV (g_X12_boatsGo (si 384 0) U2 V S2 sj sq) fun U3 _ S3 L3 _ => ((U3, V, va_up S3 384 (upd (S3 384) 0 (si 384 0 + 1)), L3, sq) : vM)) ∧ (∀ t, t ≠ 384 → t ≠ 409 → S t = si t) ∧ (∀ i, i ≠ 9 → (i < 2520 ∨ 3720 ≤ i) → (∀ c k, c < 40 → k ∈ [4, 5, 7, 9, 10, 11, 12, 13] → i ≠ 100 + 16 * c + k) → (∀ p k, p < 40 → k ∈ [5, 6] → i ≠ 740 + 12 * p + k) → S 384 i = si 384 i) ∧ (∀ c, c < 40 → S 384 (100 + 16 * c + 12) = (if c < (I 65).toNatClampNeg then (if dryN a0 I ri c = true then 1 else 0) else si 384 (100 + 16 * c + 12)) ∧ S 384 (100 + 16 * c + 11) = (if c < (I 65).toNatClampNeg then (if dryN a0 I ri c = true then 0 else si 384 (100 + 16 * c + 11) + 1) else si 384 (100 + 16 * c + 11))) ∧ (∀ c, c < 40 → (rkA (S 384) (I 320).toNatClampNeg c = true ↔ rockN a0 I ri c = true)) ∧ ∀ i, 2520 ≤ i → i < 3720 → i ≠ 2520 + 2 * (I 320).toNatClampNeg → i ≠ 2520 + 2 * (I 320).toNatClampNeg + 1 → S 384 i = si 384 i := by
  obtain ⟨⟨⟨m0, m6⟩, ⟨c0, c4⟩, ⟨l0, l2⟩⟩, ⟨⟨r0, r5⟩, ⟨p0, p4⟩, q4⟩, ⟨e0, e1, e2, e3⟩, hlv, ⟨htb, hb, hg, hd⟩, hld, hnx⟩ := h
  have k0 : (0 : Int32).toNatClampNeg = 0 := by decide
  have tm := tmod_r (m := I 320) m0 (by omega)
  have ztm := clampE (tmod (I 320))
  have tmS : 0 ≤ (tmod (si 384 0)).toInt ∧ (tmod (si 384 0)).toInt ≤ 11 := by rw [← e0]; exact tm
  have ztS := clampE (tmod (si 384 0))
  have hT := htb (tmod (I 320)).toNatClampNeg (by omega)
  rw [e0] at m0 m6 h6
  rw [e2] at c0 c4
  rw [e3] at l0 l2
  rw [g_X12_month_e]
  simp only [↓ap1_n]
  -- REEF
  obtain ⟨A1, ev1, z1, v1⟩ := reefGoes_v (I := U) (J := V) (ri := si) (rj := sj) (rq := sq) (m := si 384 (0 : Int32).toNatClampNeg) (by rw [k0]; exact m0) (by rw [k0]; omega) c0 c4
  rw [ev1]
  simp only [bnV_u]
  rw [k0] at v1 ⊢
  have f1 : ∀ i, (∀ c, c < 40 → i ≠ 100 + 16 * c + 5) → va_up si 384 A1 384 i = si 384 i := fun i hi => by rw [va_up_self]; exact z1 i hi
  have re1 : ∀ c, c < 40 → va_up si 384 A1 384 (100 + 16 * c + 5) = reN I ri c := fun c hc => by
    rw [va_up_self, v1 c hc]
    unfold reN
    rw [(hld c hc).2.2.2.1, e2]
    have er : rfm (si 384) (tmod (si 384 0)).toNatClampNeg = rfN I ri := by
      unfold rfm rfN
      rw [hb, hg, hd, hT.2.2.1, ← e0]
    rw [er]
  -- SAND
  have c2' : va_up si 384 A1 384 2 = I 65 := (f1 2 (fun c _ => by omega)).trans e2.symm
  obtain ⟨g, A2, ev2, z2, v2⟩ := sandGoes_v (I := U) (J := V) (ri := va_up si 384 A1) (rj := sj) (rq := sq) (m := si 384 0) (nx := ri 79) (s := ri 73) (w := ri 75) (rg := ri 69) m0 (by omega) (by rw [c2', e2]; exact c0) (by rw [c2', e2]; exact c4) (by rw [c2']; exact hnx.1) (fun c hc => (f1 _ (fun c2 _ => by omega)).trans (hld c hc).1) (fun c hc => (f1 _ (fun c2 _ => by omega)).trans (hld c hc).2.2.1) (fun c hc => ⟨(f1 _ (fun c2 _ => by omega)).trans (hld c hc).2.2.2.2.1, (hld c hc).2.2.2.2.2⟩)
  rw [ev2]
  simp only
  generalize hS2 : va_up (va_up (va_up si 384 A1) 409 g) 384 A2 = S2
  have S2a : S2 384 = A2 := by rw [← hS2, va_up_self]
  have S2o : ∀ t, t ≠ 384 → t ≠ 409 → S2 t = si t := fun t h1 h2 => by rw [← hS2, va_up_ne _ _ h1, va_up_ne _ _ h2, va_up_ne _ _ h1]
  have f2 : ∀ i, i ≠ 9 → (∀ c k, c < 40 → k ∈ [4, 5] → i ≠ 100 + 16 * c + k) → S2 384 i = si 384 i := fun i h9 hi => by
    rw [S2a, z2 i h9 (fun c hc => hi c 4 hc (by decide))]
    exact f1 i (fun c hc => hi c 5 hc (by decide))
  have sd2 : ∀ c, c < 40 → S2 384 (100 + 16 * c + 4) = sdN I ri c := fun c hc => by
    rw [S2a, v2 c hc, c2', f1 _ (fun c2 _ => by omega)]
    unfold sdN
    rw [hT.2.2.2, e0]
  have re2 : ∀ c, c < 40 → S2 384 (100 + 16 * c + 5) = reN I ri c := fun c hc => by
    rw [S2a, z2 _ (by omega) (fun c2 _ => by omega)]
    exact re1 c hc
  -- the LEVEL
  have n3 : S2 384 3 = I 224 := (f2 3 (by decide) (fun c k _ hk => by simp only [List.mem_cons, List.not_mem_nil, or_false] at hk; omega)).trans e3.symm
  have hlvl : g_X12_levelAt a0 (si 384 0) (si 384 0) U V S2 sj sq = (lvN a0 I ri, U, V, S2, sj, sq) := by
    rw [levelAt_v (by rw [n3, e3]; exact l0) (by rw [n3, e3]; exact l2), n3]
    have a5 : ∀ o, o ≤ 4 → ∀ k, k < 200 → A5 (S2 384) o k = A5 (si 384) o k := fun o ho k hk => f2 _ (by omega) (fun c k2 _ hk2 => by simp only [List.mem_cons, List.not_mem_nil, or_false] at hk2; omega)
    have hn2 : (I 224).toNatClampNeg ≤ 200 := by
      have z := clampE (I 224)
      rw [e3] at z ⊢
      omega
    have hL : LVR (ri 225) (ri 226) (ri 227) (ri 228) (A5 (S2 384) 0) (A5 (S2 384) 1) (A5 (S2 384) 2) (A5 (S2 384) 3) (A5 (S2 384) 4) (I 224).toNatClampNeg := fun k hk => by
      rw [a5 0 (by decide) k (by omega), a5 1 (by decide) k (by omega), a5 2 (by decide) k (by omega), a5 3 (by decide) k (by omega), a5 4 (by decide) k (by omega)]
      exact hlv k hk
    rw [← fin_eq hL, ← e0]
    rfl
  rw [hlvl]
  simp only [bnI_u]
  -- the tides
  have S22 : S2 384 2 = I 65 := (f2 2 (by decide) (fun c k _ hk => by simp only [List.mem_cons, List.not_mem_nil, or_false] at hk; omega)).trans e2.symm
  obtain ⟨A3, ev3, z3, v3, w3, k3, r3⟩ := seaStands_r (I := U) (J := V) (ri := S2) (rj := sj) (rq := sq) (m := si 384 0) (lv := lvN a0 I ri) m0 h6 (by rw [S22, e2]; exact c0) (by rw [S22, e2]; exact c4)
  rw [ev3]
  simp only
  have f3 : ∀ i, i ≠ 9 → (i < 2520 ∨ 3720 ≤ i) → (∀ c k, c < 40 → k ∈ [4, 5, 7, 9, 10, 11, 12, 13] → i ≠ 100 + 16 * c + k) → A3 i = si 384 i := fun i h9 hr hi => by
    rw [z3 i hr (fun c k hc hk => hi c k hc (by simp only [List.mem_cons, List.not_mem_nil, or_false] at hk ⊢; omega))]
    exact f2 i h9 (fun c k hc hk => hi c k hc (by simp only [List.mem_cons, List.not_mem_nil, or_false] at hk ⊢; omega))
  have sd3 : ∀ c, c < 40 → A3 (100 + 16 * c + 4) = sdN I ri c := fun c hc => by
    rw [z3 _ (Or.inl (by omega)) (fun c2 k h2 hk => by simp only [List.mem_cons, List.not_mem_nil, or_false] at hk; omega)]; exact sd2 c hc
  have re3 : ∀ c, c < 40 → A3 (100 + 16 * c + 5) = reN I ri c := fun c hc => by
    rw [z3 _ (Or.inl (by omega)) (fun c2 k h2 hk => by simp only [List.mem_cons, List.not_mem_nil, or_false] at hk; omega)]; exact re2 c hc
  have small : ∀ i, i < 20 → i ≠ 9 → A3 i = si 384 i := fun i hi h9 => f3 i h9 (Or.inl (by omega)) (fun c k _ _ => by omega)
  have et : ∀ c, c < 40 → topA (S2 384) c = topS (ri 70) (sdN I ri) (reN I ri) (ri 75) c := fun c hc40 => by
    unfold topA topS
    rw [sd2 c hc40, re2 c hc40, f2 _ (by omega) (fun c2 k h2 hk => by simp only [List.mem_cons, List.not_mem_nil, or_false] at hk; omega), f2 _ (by omega) (fun c2 k h2 hk => by simp only [List.mem_cons, List.not_mem_nil, or_false] at hk; omega), (hld c hc40).2.1, (hld c hc40).2.2.2.2.1]
  have eh : S2 384 (20 + 5 * (tmod (si 384 0)).toNatClampNeg + 1) = ri 230 (tmod (I 320)).toNatClampNeg := by
    rw [← e0, f2 _ (by omega) (fun c2 k h2 hk => by simp only [List.mem_cons, List.not_mem_nil, or_false] at hk; omega)]
    exact hT.2.1.symm
  have el : S2 384 (20 + 5 * (tmod (si 384 0)).toNatClampNeg + 0) = ri 229 (tmod (I 320)).toNatClampNeg := by
    rw [← e0, f2 _ (by omega) (fun c2 k h2 hk => by simp only [List.mem_cons, List.not_mem_nil, or_false] at hk; omega)]
    exact hT.1.symm
  have n65 : (I 65).toNatClampNeg ≤ 40 := by
    have zc := clampE (I 65)
    rw [e2] at zc ⊢
    omega
  have s11 : ∀ c, c < 40 → S2 384 (100 + 16 * c + 11) = si 384 (100 + 16 * c + 11) := fun c hc => f2 _ (by omega) (fun c2 k h2 hk => by simp only [List.mem_cons, List.not_mem_nil, or_false] at hk; omega)
  have s12 : ∀ c, c < 40 → S2 384 (100 + 16 * c + 12) = si 384 (100 + 16 * c + 12) := fun c hc => f2 _ (by omega) (fun c2 k h2 hk => by simp only [List.mem_cons, List.not_mem_nil, or_false] at hk; omega)
  have dr3 : ∀ c, c < 40 → A3 (100 + 16 * c + 12) = (if c < (I 65).toNatClampNeg then (if dryN a0 I ri c = true then 1 else 0) else si 384 (100 + 16 * c + 12)) ∧ A3 (100 + 16 * c + 11) = (if c < (I 65).toNatClampNeg then (if dryN a0 I ri c = true then 0 else si 384 (100 + 16 * c + 11) + 1) else si 384 (100 + 16 * c + 11)) := fun c hc40 => by
    by_cases hc : c < (I 65).toNatClampNeg
    · rw [if_pos hc, if_pos hc]
      have v := v3 c (by rw [S22]; exact hc)
      rw [et c hc40, eh, s11 c hc40] at v
      unfold dryN
      by_cases q : topS (ri 70) (sdN I ri) (reN I ri) (ri 75) c ≤ lvN a0 I ri + ri 230 (tmod (I 320)).toNatClampNeg
      · rw [if_pos q, if_pos q] at v
        rw [if_neg (fun y => (of_decide_eq_true y).2 q), if_neg (fun y => (of_decide_eq_true y).2 q)]
        exact v
      · rw [if_neg q, if_neg q] at v
        rw [if_pos (decide_eq_true ⟨hc, q⟩), if_pos (decide_eq_true ⟨hc, q⟩)]
        exact v
    · rw [if_neg hc, if_neg hc]
      have v := w3 c (by rw [S22]; omega) hc40
      rw [s11 c hc40, s12 c hc40] at v
      exact v
  have rk3 : ∀ c, c < 40 → (rkA A3 (I 320).toNatClampNeg c = true ↔ rockN a0 I ri c = true) := fun c hc40 => by
    rw [e0, k3 c hc40, S22, et c hc40, el]
    unfold rockN
    rw [decide_eq_true_iff, e0]
  have ro3 : ∀ i, 2520 ≤ i → i < 3720 → i ≠ 2520 + 2 * (I 320).toNatClampNeg → i ≠ 2520 + 2 * (I 320).toNatClampNeg + 1 → A3 i = si 384 i := fun i i1 i2 i3 i4 => by
    rw [e0] at i3 i4
    rw [r3 i i1 i2 i3 i4]
    exact f2 i (by omega) (fun c2 k h2 hk => by simp only [List.mem_cons, List.not_mem_nil, or_false] at hk; omega)
  -- drinking, sleep, THE FUND
  have B1 : va_up S2 384 A3 384 1 = si 384 1 := by rw [va_up_self]; exact small 1 (by decide) (by decide)
  have B2 : va_up S2 384 A3 384 2 = si 384 2 := by rw [va_up_self]; exact small 2 (by decide) (by decide)
  have B5 : va_up S2 384 A3 384 5 = si 384 5 := by rw [va_up_self]; exact small 5 (by decide) (by decide)
  obtain ⟨A4, ev4, z4⟩ := drink_q (I := U) (J := V) (ri := va_up S2 384 A3) (rj := sj) (rq := sq) (by rw [B2]; exact c0) (by rw [B2]; exact c4) (by rw [B5]; exact p4)
  rw [va_up_self] at z4
  rw [ev4, up_up]
  simp only
  have cnt : ∀ A : Nat → Int32, zq A3 A → ∀ i, i = 1 ∨ i = 2 ∨ i = 5 ∨ i = 4 → va_up S2 384 A 384 i = si 384 i := fun A hA i hi => by
    rw [va_up_self, hA i (fun c _ => by omega) (fun p k _ _ => by omega)]
    exact small i (by omega) (by omega)
  obtain ⟨A5', ev5, z5⟩ := sleep_q (I := U) (J := V) (ri := va_up S2 384 A4) (rj := sj) (rq := sq) (by rw [cnt A4 z4 1 (Or.inl rfl)]; exact r5) (by rw [cnt A4 z4 2 (Or.inr (Or.inl rfl))]; exact c4) (by rw [cnt A4 z4 5 (Or.inr (Or.inr (Or.inl rfl)))]; exact p4)
  rw [va_up_self] at z5
  rw [ev5, up_up]
  simp only
  have z45 := zq_tr z4 z5
  refine ⟨va_up S2 384 A5', ?_, fun t h1 h2 => (va_up_ne _ _ h1).trans (S2o t h1 h2), fun i h9 hr hc hp => ?_, fun c hc => ?_, fun c hc => ?_, fun i i1 i2 i3 i4 => ?_⟩
  · simp only [bnV, k0]
  · rw [va_up_self, z45 i (fun c h2 => hc c 9 h2 (by decide)) hp]
    exact f3 i h9 hr hc
  · have z : ∀ k, k ∈ [11, 12] → va_up S2 384 A5' 384 (100 + 16 * c + k) = A3 (100 + 16 * c + k) := fun k hk => by
      simp only [List.mem_cons, List.not_mem_nil, or_false] at hk
      rw [va_up_self, z45 _ (fun c2 h2 => by omega) (fun p k2 hp hk2 => by simp only [List.mem_cons, List.not_mem_nil, or_false] at hk2; omega)]
    rw [z 12 (by decide), z 11 (by decide)]
    exact dr3 c hc
  · rw [va_up_self, ← rk3 c hc]
    have zI := clampE (I 320)
    unfold rkA
    rw [z45 _ (fun c2 h2 => by omega) (fun p k2 hp hk2 => by simp only [List.mem_cons, List.not_mem_nil, or_false] at hk2; omega), z45 _ (fun c2 h2 => by omega) (fun p k2 hp hk2 => by simp only [List.mem_cons, List.not_mem_nil, or_false] at hk2; omega)]
  · rw [va_up_self, z45 i (fun c2 h2 => by omega) (fun p k2 hp hk2 => by simp only [List.mem_cons, List.not_mem_nil, or_false] at hk2; omega)]
    exact ro3 i i1 i2 i3 i4
end PU23
