/-! ===== pure: TABLE, RULES, CELL on both sides ===== -/
section PU15
variable {I : Nat → Int32} {J : Nat → Int64} {ri : Nat → Nat → Int32} {rj : Nat → Nat → Int64} {rq : Nat → Nat → Option Nat}
variable {U : Nat → Int32} {V : Nat → Int64} {si : Nat → Nat → Int32} {sj : Nat → Nat → Int64} {sq : Nat → Nat → Option Nat}
variable {A A1 : Nat → Int32} {r1 : Nat → Nat → Int32} {I1 : Nat → Int32}
/-- what RSL hangs on beside THE TABLE and THE RULES -/
theorem RL_tr (h : RSL I ri A) (hI : ∀ f, f ∈ [64, 65, 224, 320] → I1 f = I f) (hr : ∀ t, t ∈ [69, 70, 73, 74, 75, 79, 225, 226, 227, 228] → r1 t = ri t) (hA : ∀ i, i < 13 ∨ 80 ≤ i → A1 i = A i) (hT : RTB I1 r1 A1) : RSL I1 r1 A1 := by
  obtain ⟨⟨hm, hc, hl⟩, hmx, ⟨e0, e1, e2, e3⟩, hlv, _, hld, hnx⟩ := h
  have a5 : ∀ o k, A5 A1 o k = A5 A o k := fun o k => hA (1220 + o + 5 * k) (Or.inr (by omega))
  refine ⟨⟨?_, ?_, ?_⟩, ?_, ⟨?_, ?_, ?_, ?_⟩, ?_, hT, fun c hc => ?_, ?_⟩
  · rw [hI 320 (by decide)]; exact hm
  · rw [hI 65 (by decide)]; exact hc
  · rw [hI 224 (by decide)]; exact hl
  · show (0 ≤ (A1 1).toInt ∧ (A1 1).toInt ≤ 5) ∧ (0 ≤ (A1 5).toInt ∧ (A1 5).toInt ≤ 40) ∧ (A1 4).toInt ≤ 5
    rw [hA 1 (Or.inl (by decide)), hA 5 (Or.inl (by decide)), hA 4 (Or.inl (by decide))]; exact hmx
  · rw [hI 320 (by decide), hA 0 (Or.inl (by decide))]; exact e0
  · rw [hI 64 (by decide), hA 1 (Or.inl (by decide))]; exact e1
  · rw [hI 65 (by decide), hA 2 (Or.inl (by decide))]; exact e2
  · rw [hI 224 (by decide), hA 3 (Or.inl (by decide))]; exact e3
  · show LVR _ _ _ _ _ _ _ _ _ _
    rw [hI 224 (by decide), hr 225 (by decide), hr 226 (by decide), hr 227 (by decide), hr 228 (by decide)]
    intro k hk
    rw [a5, a5, a5, a5, a5]
    exact hlv k hk
  · rw [hA _ (Or.inr (by omega)), hA _ (Or.inr (by omega)), hA _ (Or.inr (by omega)), hA _ (Or.inr (by omega)), hA _ (Or.inr (by omega)), hr 69 (by decide), hr 70 (by decide), hr 73 (by decide), hr 74 (by decide), hr 75 (by decide)]
    exact hld c hc
  · show NXT _ _ _ ∧ _
    rw [hI 65 (by decide), hr 79 (by decide), hr 69 (by decide)]
    exact hnx
theorem table_CV {a0 a1 a2 a3 a4 a5 : Int32} (h : RSL I ri (si 384)) : CV (g_X11_table a0 a1 a2 a3 a4 a5 I J ri rj rq) (g_X12_table a0 a1 a2 a3 a4 a5 U V si sj sq) := by
  rw [g_X11_table_e, g_X12_table_e]
  simp only [↓ap1_n, between_b, isIn_b, g_X11_table_K69, g_X11_table_K70_2, g_X12_table_K65, g_X11_table_K70]
  by_cases q0 : bt a0 0 11 = 0
  · simp only [if_pos q0]; exact cv_no h
  · by_cases q1 : bt a1 0 2000 = 0
    · simp only [if_neg q0, if_pos q1]; exact cv_no h
    · by_cases q2 : bt a2 a1 2000 = 0
      · simp only [if_neg q0, if_neg q1, if_pos q2]; exact cv_no h
      · by_cases q3 : bt a3 0 40 = 0
        · simp only [if_neg q0, if_neg q1, if_neg q2, if_pos q3]; exact cv_no h
        · by_cases q4 : bt a4 0 50 = 0
          · simp only [if_neg q0, if_neg q1, if_neg q2, if_neg q3, if_pos q4]; exact cv_no h
          · by_cases q5 : bt a5 0 100 = 0
            · simp only [if_neg q0, if_neg q1, if_neg q2, if_neg q3, if_neg q4, if_pos q5]; exact cv_no h
            · have b := bt_n q0
              have k0 : (0 : Int32).toInt = 0 := by decide
              have k11 : (11 : Int32).toInt = 11 := by decide
              have z := clampE a0
              have i0 := ixt (x := a0) (k := 0) 0 (by decide) (by decide) (by omega) (by omega)
              have i1 := ixt (x := a0) (k := 1) 1 (by decide) (by decide) (by omega) (by omega)
              have i2 := ixt (x := a0) (k := 2) 2 (by decide) (by decide) (by omega) (by omega)
              have i3 := ixt (x := a0) (k := 3) 3 (by decide) (by decide) (by omega) (by omega)
              have i4 := ixt (x := a0) (k := 4) 4 (by decide) (by decide) (by omega) (by omega)
              simp only [if_neg q0, if_neg q1, if_neg q2, if_neg q3, if_neg q4, if_neg q5, i0, i1, i2, i3, i4, va_up_self, up_up]
              refine ⟨rfl, ?_⟩
              show RSL I (va_up (va_up (va_up (va_up (va_up ri 229 (upd (ri 229) a0.toNatClampNeg a1)) 230 (upd (ri 230) a0.toNatClampNeg a2)) 231 (upd (ri 231) a0.toNatClampNeg a3)) 232 (upd (ri 232) a0.toNatClampNeg a4)) 233 (upd (ri 233) a0.toNatClampNeg a5)) (upd (upd (upd (upd (upd (si 384) (20 + 5 * a0.toNatClampNeg + 0) a1) (20 + 5 * a0.toNatClampNeg + 1) a2) (20 + 5 * a0.toNatClampNeg + 2) a3) (20 + 5 * a0.toNatClampNeg + 3) a4) (20 + 5 * a0.toNatClampNeg + 4) a5)
              refine RL_tr h (fun _ _ => rfl) (fun t ht => ?_) (fun i hi => ?_) ?_
              · have D := (by decide : ∀ t, t ∈ [69, 70, 73, 74, 75, 79, 225, 226, 227, 228] → t ≠ 229 ∧ t ≠ 230 ∧ t ≠ 231 ∧ t ≠ 232 ∧ t ≠ 233) t ht
                rw [va_up_ne _ _ D.2.2.2.2, va_up_ne _ _ D.2.2.2.1, va_up_ne _ _ D.2.2.1, va_up_ne _ _ D.2.1, va_up_ne _ _ D.1]
              · rw [upd_n _ _ (by omega), upd_n _ _ (by omega), upd_n _ _ (by omega), upd_n _ _ (by omega), upd_n _ _ (by omega)]
              · obtain ⟨_, _, _, _, ⟨htb, hb, hg, hd⟩, _⟩ := h
                refine ⟨fun j hj => ?_, ?_, ?_, ?_⟩
                · have x := htb j hj
                  by_cases w : j = a0.toNatClampNeg
                  · subst w
                    refine ⟨?_, ?_, ?_, ?_⟩
                    · rw [upd_n _ _ (by omega), upd_n _ _ (by omega), upd_n _ _ (by omega), upd_n _ _ (by omega), upd_s]; simp [va_up, upd]
                    · rw [upd_n _ _ (by omega), upd_n _ _ (by omega), upd_n _ _ (by omega), upd_s]; simp [va_up, upd]
                    · rw [upd_n _ _ (by omega), upd_n _ _ (by omega), upd_s]; simp [va_up, upd]
                    · rw [upd_n _ _ (by omega), upd_s]; simp [va_up, upd]
                  · refine ⟨?_, ?_, ?_, ?_⟩
                    · rw [upd_n _ _ (by omega), upd_n _ _ (by omega), upd_n _ _ (by omega), upd_n _ _ (by omega), upd_n _ _ (by omega)]; simp [va_up, upd, w]; exact x.1
                    · rw [upd_n _ _ (by omega), upd_n _ _ (by omega), upd_n _ _ (by omega), upd_n _ _ (by omega), upd_n _ _ (by omega)]; simp [va_up, upd, w]; exact x.2.1
                    · rw [upd_n _ _ (by omega), upd_n _ _ (by omega), upd_n _ _ (by omega), upd_n _ _ (by omega), upd_n _ _ (by omega)]; simp [va_up, upd, w]; exact x.2.2.1
                    · rw [upd_n _ _ (by omega), upd_n _ _ (by omega), upd_n _ _ (by omega), upd_n _ _ (by omega), upd_n _ _ (by omega)]; simp [va_up, upd, w]; exact x.2.2.2
                · rw [upd_n _ _ (by omega), upd_n _ _ (by omega), upd_n _ _ (by omega), upd_n _ _ (by omega), upd_n _ _ (by omega)]; exact hb
                · rw [upd_n _ _ (by omega), upd_n _ _ (by omega), upd_n _ _ (by omega), upd_n _ _ (by omega), upd_n _ _ (by omega)]; exact hg
                · rw [upd_n _ _ (by omega), upd_n _ _ (by omega), upd_n _ _ (by omega), upd_n _ _ (by omega), upd_n _ _ (by omega)]; exact hd
theorem rules_CV {a0 a1 a2 a3 a4 : Int32} (h : RSL I ri (si 384)) : CV (g_X11_rules a0 a1 a2 a3 a4 I J ri rj rq) (g_X12_rules a0 a1 a2 a3 a4 U V si sj sq) := by
  rw [g_X11_rules_e, g_X12_rules_e]
  simp only [↓ap1_n, between_b, isIn_b, g_X11_rules_K55, g_X11_rules_K56_2, g_X12_rules_K51, g_X11_rules_K56, show (13 : Int32).toNatClampNeg = 13 from by decide, show (14 : Int32).toNatClampNeg = 14 from by decide, show (15 : Int32).toNatClampNeg = 15 from by decide, show (16 : Int32).toNatClampNeg = 16 from by decide, show (17 : Int32).toNatClampNeg = 17 from by decide]
  by_cases q0 : bt a0 0 40 = 0
  · simp only [if_pos q0]; exact cv_no h
  · by_cases q1 : bt a1 0 5 = 0
    · simp only [if_neg q0, if_pos q1]; exact cv_no h
    · by_cases q2 : bt a2 0 50 = 0
      · simp only [if_neg q0, if_neg q1, if_pos q2]; exact cv_no h
      · by_cases q3 : bt a3 1 20 = 0
        · simp only [if_neg q0, if_neg q1, if_neg q2, if_pos q3]; exact cv_no h
        · by_cases q4 : bt a4 0 100 = 0
          · simp only [if_neg q0, if_neg q1, if_neg q2, if_neg q3, if_pos q4]; exact cv_no h
          · simp only [if_neg q0, if_neg q1, if_neg q2, if_neg q3, if_neg q4, va_up_self, up_up]
            refine ⟨rfl, ?_⟩
            show RSL (va_up (va_up (va_up (va_up (va_up I 234 a0) 235 a1) 236 a2) 237 a3) 238 a4) ri (upd (upd (upd (upd (upd (si 384) 13 a0) 14 a1) 15 a2) 16 a3) 17 a4)
            refine RL_tr h (fun f hf => ?_) (fun _ _ => rfl) (fun i hi => ?_) ?_
            · have D := (by decide : ∀ t, t ∈ [64, 65, 224, 320] → t ≠ 234 ∧ t ≠ 235 ∧ t ≠ 236 ∧ t ≠ 237 ∧ t ≠ 238) f hf
              rw [va_up_ne _ _ D.2.2.2.2, va_up_ne _ _ D.2.2.2.1, va_up_ne _ _ D.2.2.1, va_up_ne _ _ D.2.1, va_up_ne _ _ D.1]
            · rw [upd_n _ _ (by omega), upd_n _ _ (by omega), upd_n _ _ (by omega), upd_n _ _ (by omega), upd_n _ _ (by omega)]
            · obtain ⟨_, _, _, _, ⟨htb, hb, hg, hd⟩, _⟩ := h
              refine ⟨fun j hj => ?_, ?_, ?_, ?_⟩
              · have o : ∀ i, 20 ≤ i → upd (upd (upd (upd (upd (si 384) 13 a0) 14 a1) 15 a2) 16 a3) 17 a4 i = si 384 i := fun i hi => by rw [upd_n _ _ (by omega), upd_n _ _ (by omega), upd_n _ _ (by omega), upd_n _ _ (by omega), upd_n _ _ (by omega)]
                rw [o _ (by omega), o _ (by omega), o _ (by omega), o _ (by omega)]
                exact htb j hj
              · simp [va_up, upd]
              · simp [va_up, upd]
              · simp [va_up, upd]
/-- a CELL joins its RING -/
theorem joinRing_l {N a : Int32} (h0 : 0 ≤ N.toInt) (h39 : N.toInt ≤ 39) : ∀ (n : Nat) (la x : Int32), 0 ≤ x.toInt → x.toInt ≤ N.toInt → (39 - x.toInt).toNat < n → ((la = -1 ∧ ∀ c, c < x.toNatClampNeg → ri 69 c ≠ a) ∨ (0 ≤ la.toInt ∧ la.toNatClampNeg < x.toNatClampNeg ∧ ri 69 la.toNatClampNeg = a ∧ ∀ c, la.toNatClampNeg < c → c < x.toNatClampNeg → ri 69 c ≠ a)) → ((∀ c, c < N.toNatClampNeg → ri 69 c ≠ a) ∧ g_X2_joinRing_L5 N a I J ri rj rq n la x = (I, J, va_up ri 80 (upd (ri 80) a.toNatClampNeg N), rj, rq)) ∨ ∃ l : Nat, l < N.toNatClampNeg ∧ ri 69 l = a ∧ (∀ c, l < c → c < N.toNatClampNeg → ri 69 c ≠ a) ∧ g_X2_joinRing_L5 N a I J ri rj rq n la x = (I, J, va_up ri 79 (upd (ri 79) l N), rj, rq) := by
  intro n
  induction n with
  | zero => intro la x _ _ h; exact absurd h (Nat.not_lt_zero _)
  | succ n ih =>
    intro la x h1 h2 h3 hl
    have zx := clampE x
    have zN := clampE N
    rw [g_X2_joinRing_L5_e]
    simp only [↓ap1_n, g_X2_joinRing_K25]
    by_cases d : N ≤ x
    · have d1 := Int32.le_iff_toInt_le.mp d
      have ex : x.toNatClampNeg = N.toNatClampNeg := by omega
      rw [ex] at hl
      simp only [if_pos d]
      rcases hl with ⟨e, p⟩ | ⟨p0, p1, p2, p3⟩
      · simp only [if_pos e]
        exact Or.inl ⟨p, by first | exact rfl | exact trivial⟩
      · have e : ¬ la = -1 := fun y => by rw [y] at p0; exact absurd p0 (by decide)
        simp only [if_neg e]
        exact Or.inr ⟨la.toNatClampNeg, p1, p2, p3, by first | exact rfl | exact trivial⟩
    · have d1 := Int32.lt_iff_toInt_lt.mp (Int32.not_le.mp d)
      have e := t1_inc (x := x) (by omega) (by omega)
      have z3 := clampE (x + Int32.ofInt 1)
      have hx1 : (x + Int32.ofInt 1).toNatClampNeg = x.toNatClampNeg + 1 := by omega
      simp only [if_neg d]
      by_cases q : ri 69 x.toNatClampNeg = a
      · simp only [if_pos q]
        exact ih x (x + Int32.ofInt 1) (by omega) (by omega) (by omega) (Or.inr ⟨h1, by omega, q, fun c c1 c2 => by omega⟩)
      · simp only [if_neg q]
        refine ih la (x + Int32.ofInt 1) (by omega) (by omega) (by omega) ?_
        rw [hx1]
        rcases hl with ⟨e, p⟩ | ⟨p0, p1, p2, p3⟩
        · refine Or.inl ⟨e, fun c hc => ?_⟩
          by_cases w : c = x.toNatClampNeg
          · rw [w]; exact q
          · exact p c (by omega)
        · refine Or.inr ⟨p0, by omega, p2, fun c c1 c2 => ?_⟩
          by_cases w : c = x.toNatClampNeg
          · rw [w]; exact q
          · exact p3 c c1 (by omega)
/-- what RSL asks of a new CELL -/
theorem RL_cell {a0 a1 a4 a5 : Int32} (h : RSL I ri A) (d : (I 65).toInt < 40) (n : Nat) (hn : n = (I 65).toNatClampNeg) (r69 : r1 69 = upd (ri 69) n a0) (r70 : r1 70 = upd (ri 70) n a1) (r73 : r1 73 = upd (ri 73) n a4) (r74 : r1 74 = upd (ri 74) n a5) (ro : ∀ t, t ∈ [75, 225, 226, 227, 228, 229, 230, 231, 232] → r1 t = ri t) (hJ : ((∀ c, c < n → ri 69 c ≠ a0) ∧ r1 79 = ri 79) ∨ ∃ l : Nat, l < n ∧ ri 69 l = a0 ∧ (∀ c, l < c → c < n → ri 69 c ≠ a0) ∧ r1 79 = upd (ri 79) l (I 65)) (b0 : A1 (100 + 16 * n) = a0) (b1 : A1 (100 + 16 * n + 1) = a1) (b4 : A1 (100 + 16 * n + 4) = a4) (b5 : A1 (100 + 16 * n + 5) = a5) (b6 : A1 2 = A 2 + 1) (bo : ∀ i, i ≠ 2 → (i < 100 + 16 * n ∨ 100 + 16 * n + 16 ≤ i ∨ i = 100 + 16 * n + 6) → A1 i = A i) : RSL (va_up I 65 (I 65 + 1)) r1 A1 := by
  obtain ⟨⟨hm, ⟨c0, c4⟩, ⟨l0, l2⟩⟩, hmx, ⟨e0, e1, e2, e3⟩, hlv, ⟨htb, hb, hg, hd⟩, hld, ⟨hx, hx2⟩⟩ := h
  have q : (I 65 + 1).toInt = (I 65).toInt + 1 := t1_one (by omega) (by omega)
  have z := clampE (I 65)
  have z1 := clampE (I 65 + 1)
  have z224 := clampE (I 224)
  have N1 : (I 65 + 1).toNatClampNeg = n + 1 := by omega
  have o : ∀ {f : Nat}, f ≠ 65 → va_up I 65 (I 65 + 1) f = I f := fun hf => va_up_ne _ _ hf
  have s65 : va_up I 65 (I 65 + 1) 65 = I 65 + 1 := va_up_self _ _ _
  refine ⟨⟨?_, ?_, ?_⟩, ?_, ⟨?_, ?_, ?_, ?_⟩, ?_, ⟨?_, ?_, ?_, ?_⟩, ?_, ?_, ?_⟩
  · rw [o (show (320 : Nat) ≠ 65 by decide)]; exact hm
  · rw [s65, q]; exact ⟨by omega, by omega⟩
  · rw [o (show (224 : Nat) ≠ 65 by decide)]; exact ⟨l0, l2⟩
  · show (0 ≤ (A1 1).toInt ∧ (A1 1).toInt ≤ 5) ∧ (0 ≤ (A1 5).toInt ∧ (A1 5).toInt ≤ 40) ∧ (A1 4).toInt ≤ 5
    rw [bo 1 (by decide) (Or.inl (by omega)), bo 5 (by decide) (Or.inl (by omega)), bo 4 (by decide) (Or.inl (by omega))]; exact hmx
  · rw [o (show (320 : Nat) ≠ 65 by decide), bo 0 (by decide) (Or.inl (by omega))]; exact e0
  · rw [o (show (64 : Nat) ≠ 65 by decide), bo 1 (by decide) (Or.inl (by omega))]; exact e1
  · rw [s65, b6, e2]
  · rw [o (show (224 : Nat) ≠ 65 by decide), bo 3 (by decide) (Or.inl (by omega))]; exact e3
  · show LVR _ _ _ _ _ _ _ _ _ _
    rw [o (show (224 : Nat) ≠ 65 by decide), ro 225 (by decide), ro 226 (by decide), ro 227 (by decide), ro 228 (by decide)]
    intro k hk
    have a5 : ∀ p, A5 A1 p k = A5 A p k := fun p => bo (1220 + p + 5 * k) (by omega) (Or.inr (Or.inl (by omega)))
    rw [a5, a5, a5, a5, a5]
    exact hlv k hk
  · intro j hj
    rw [ro 229 (by decide), ro 230 (by decide), ro 231 (by decide), ro 232 (by decide), bo _ (by omega) (Or.inl (by omega)), bo _ (by omega) (Or.inl (by omega)), bo _ (by omega) (Or.inl (by omega)), bo _ (by omega) (Or.inl (by omega))]
    exact htb j hj
  · rw [o (show (234 : Nat) ≠ 65 by decide), bo 13 (by decide) (Or.inl (by omega))]; exact hb
  · rw [o (show (235 : Nat) ≠ 65 by decide), bo 14 (by decide) (Or.inl (by omega))]; exact hg
  · rw [o (show (236 : Nat) ≠ 65 by decide), bo 15 (by decide) (Or.inl (by omega))]; exact hd
  · intro c hc
    have x := hld c hc
    rw [r69, r70, r73, r74, ro 75 (by decide)]
    by_cases w : c = n
    · subst w
      rw [upd_s, upd_s, upd_s, upd_s, b0, b1, b4, b5, bo _ (by omega) (Or.inr (Or.inr rfl))]
      exact ⟨rfl, rfl, rfl, rfl, x.2.2.2.2.1, x.2.2.2.2.2⟩
    · rw [upd_n _ _ w, upd_n _ _ w, upd_n _ _ w, upd_n _ _ w, bo _ (by omega) (by omega), bo _ (by omega) (by omega), bo _ (by omega) (by omega), bo _ (by omega) (by omega), bo _ (by omega) (by omega)]
      exact x
  · rw [s65, N1, r69]
    rw [← hn] at hx hx2
    have gr : ∀ k, k < n → upd (ri 69) n a0 k = ri 69 k := fun k hk => upd_n _ _ (by omega)
    have grn : upd (ri 69) n a0 n = a0 := upd_s _ _ _
    have nxn : r1 79 n = -1 := by
      rcases hJ with ⟨_, e⟩ | ⟨l, l1, _, _, e⟩
      · rw [e]; exact hx2 n (Nat.le_refl _) (by omega)
      · rw [e, upd_n _ _ (by omega)]; exact hx2 n (Nat.le_refl _) (by omega)
    intro c hc
    by_cases w : c = n
    · subst w
      exact Or.inl ⟨nxn, fun k k1 k2 => by omega⟩
    · have hcn : c < n := by omega
      -- its next one stands, if it has one
      have keep : r1 79 c = ri 79 c → ((ri 79 c = -1 ∧ ∀ k, c < k → k < n → ri 69 k ≠ ri 69 c) → ri 69 c ≠ a0) → (r1 79 c = -1 ∧ ∀ k, c < k → k < n + 1 → upd (ri 69) n a0 k ≠ upd (ri 69) n a0 c) ∨ ∃ k, c < k ∧ k < n + 1 ∧ upd (ri 69) n a0 k = upd (ri 69) n a0 c ∧ (∀ i, c < i → i < k → upd (ri 69) n a0 i ≠ upd (ri 69) n a0 c) ∧ (r1 79 c).toInt = (k : Int) := fun ec hne => by
        rw [ec, gr c hcn]
        rcases hx c hcn with ⟨p1, p2⟩ | ⟨k, k1, k2, k3, k4, k5⟩
        · refine Or.inl ⟨p1, fun k k1 k2 => ?_⟩
          by_cases wk : k = n
          · subst wk; rw [grn]; exact fun y => hne ⟨p1, p2⟩ y.symm
          · rw [gr k (by omega)]; exact p2 k k1 (by omega)
        · refine Or.inr ⟨k, k1, by omega, ?_, fun i i1 i2 => ?_, k5⟩
          · rw [gr k k2]; exact k3
          · rw [gr i (by omega)]; exact k4 i i1 i2
      rcases hJ with ⟨p, e⟩ | ⟨l, l1, l2, l3, e⟩
      · exact keep (by rw [e]) (fun _ => p c hcn)
      · by_cases wl : c = l
        · subst wl
          refine Or.inr ⟨n, hcn, by omega, ?_, fun i i1 i2 => ?_, ?_⟩
          · rw [grn, gr c hcn]; exact l2.symm
          · rw [gr i i2, gr c hcn, l2]; exact l3 i i1 i2
          · rw [e, upd_s]; omega
        · refine keep (by rw [e, upd_n _ _ wl]) (fun y w0 => ?_)
          by_cases wc : c < l
          · exact y.2 l wc l1 (l2.trans w0.symm)
          · exact l3 c (by omega) hcn w0
  · intro j h1 h2
    rw [s65, N1] at h1
    rcases hJ with ⟨_, e⟩ | ⟨l, l1, _, _, e⟩
    · rw [e]; exact hx2 j (by omega) h2
    · rw [e, upd_n _ _ (by omega)]; exact hx2 j (by omega) h2
theorem cell_CV {a0 a1 a2 a3 a4 a5 : Int32} (h : RSL I ri (si 384)) : CV (g_X11_cell a0 a1 a2 a3 a4 a5 I J ri rj rq) (g_X12_cell a0 a1 a2 a3 a4 a5 U V si sj sq) := by
  have h' := h
  obtain ⟨⟨⟨m0, m6⟩, ⟨c0, c4⟩, hl⟩, hmx, ⟨e0, e1, e2, e3⟩, _⟩ := h'
  have k0 : (0 : Int32).toInt = 0 := by decide
  have k40 : (40 : Int32).toInt = 40 := by decide
  rw [g_X11_cell_e, g_X12_cell_e]
  simp only [isRing_c, isRing_m, bnI_mk, ↓ap1_n, between_b, isIn_b, g_X11_cell_K70, g_X11_cell_K71_2, g_X11_cell_K103_2, g_X12_cell_K86, show (2 : Int32).toNatClampNeg = 2 from by decide]
  rw [← e1]
  by_cases q0 : bt a0 0 (I 64 - 1) = 0
  · simp only [if_pos q0]; exact cv_no h
  · by_cases q1 : bt a1 (-500) 3000 = 0
    · simp only [if_neg q0, if_pos q1]; exact cv_no h
    · by_cases q2 : bt a2 0 31 = 0
      · simp only [if_neg q0, if_neg q1, if_pos q2]; exact cv_no h
      · by_cases q3 : bt a3 0 31 = 0
        · simp only [if_neg q0, if_neg q1, if_neg q2, if_pos q3]; exact cv_no h
        · by_cases q4 : bt a4 0 500 = 0
          · simp only [if_neg q0, if_neg q1, if_neg q2, if_neg q3, if_pos q4]; exact cv_no h
          · by_cases q5 : bt a5 0 400 = 0
            · simp only [if_neg q0, if_neg q1, if_neg q2, if_neg q3, if_neg q4, if_pos q5]; exact cv_no h
            · simp only [if_neg q0, if_neg q1, if_neg q2, if_neg q3, if_neg q4, if_neg q5]
              rw [g_X11_cell_K71_e]
              simp only [↓ap1_n, g_X11_cell_K103]
              rw [← e0, ← e2]
              by_cases q6 : (0 : Int32) < I 320
              · simp only [if_pos q6]; exact cv_no h
              · by_cases q7 : I 65 < 40
                · have d1 := Int32.lt_iff_toInt_lt.mp q7
                  have q8 : ¬ I 65 = 40 := fun y => by rw [y] at d1; omega
                  have z := clampE (I 65)
                  simp only [if_neg q6, if_pos q7, if_neg q8]
                  rw [g_X2_addCell_e]
                  simp only [↓ap1_n, if_pos q7]
                  generalize hR : va_up (va_up (va_up (va_up (va_up (va_up ri 69 _) 70 _) 71 _) 72 _) 73 _) 74 _ = R
                  have R69 : R 69 = upd (ri 69) (I 65).toNatClampNeg a0 := by rw [← hR]; simp [va_up]
                  have R70 : R 70 = upd (ri 70) (I 65).toNatClampNeg a1 := by rw [← hR]; simp [va_up]
                  have R73 : R 73 = upd (ri 73) (I 65).toNatClampNeg a4 := by rw [← hR]; simp [va_up]
                  have R74 : R 74 = upd (ri 74) (I 65).toNatClampNeg a5 := by rw [← hR]; simp [va_up]
                  have Ro : ∀ t, t ∉ [69, 70, 71, 72, 73, 74] → R t = ri t := fun t ht => by
                    simp only [List.mem_cons, List.not_mem_nil, or_false, not_or] at ht
                    rw [← hR]; simp [va_up, ht]
                  have i0 := ixk (c := I 65) (k := 0) 0 (by decide) (by decide) c0 (by omega)
                  have i1 := ixk (c := I 65) (k := 1) 1 (by decide) (by decide) c0 (by omega)
                  have i2 := ixk (c := I 65) (k := 2) 2 (by decide) (by decide) c0 (by omega)
                  have i3 := ixk (c := I 65) (k := 3) 3 (by decide) (by decide) c0 (by omega)
                  have i4 := ixk (c := I 65) (k := 4) 4 (by decide) (by decide) c0 (by omega)
                  have i5 := ixk (c := I 65) (k := 5) 5 (by decide) (by decide) c0 (by omega)
                  have i14 := ixk (c := I 65) (k := 14) 14 (by decide) (by decide) c0 (by omega)
                  have ge : g_X2_joinRing (I 65) a0 I J R rj rq = g_X2_joinRing_L5 (I 65) a0 I J R rj rq ((39 - (0 : Int32).toInt).toNat + 1) (-1) 0 := rfl
                  have jr := joinRing_l (I := I) (J := J) (ri := R) (rj := rj) (rq := rq) (N := I 65) (a := a0) c0 (by omega) ((39 - (0 : Int32).toInt).toNat + 1) (-1) 0 (by omega) (by omega) (by omega) (Or.inl ⟨rfl, fun c hc => by rw [show (0 : Int32).toNatClampNeg = 0 from by decide] at hc; exact absurd hc (Nat.not_lt_zero _)⟩)
                  rw [← ge] at jr
                  have gr : ∀ c, c < (I 65).toNatClampNeg → R 69 c = ri 69 c := fun c hc => by rw [R69, upd_n _ _ (by omega)]
                  simp only [i0, i1, i2, i3, i4, i5, i14, va_up_self, up_up]
                  have ev : I 65 + 1 - 1 = I 65 := by
                    have q : (I 65 + 1).toInt = (I 65).toInt + 1 := t1_one (by omega) (by omega)
                    exact Int32.toInt_inj.mp (by rw [i_sub q (show (1 : Int32).toInt = 1 by decide) (by omega) (by omega)]; omega)
                  rw [ev]
                  have fin : ∀ r2 : Nat → Nat → Int32, r2 69 = R 69 → r2 70 = R 70 → r2 73 = R 73 → r2 74 = R 74 → (∀ t, t ∈ [75, 225, 226, 227, 228, 229, 230, 231, 232] → r2 t = R t) → (((∀ c, c < (I 65).toNatClampNeg → R 69 c ≠ a0) ∧ r2 79 = R 79) ∨ ∃ l : Nat, l < (I 65).toNatClampNeg ∧ R 69 l = a0 ∧ (∀ c, l < c → c < (I 65).toNatClampNeg → R 69 c ≠ a0) ∧ r2 79 = upd (R 79) l (I 65)) → ∀ B : Nat → Int32, B = upd (upd (upd (upd (upd (upd (upd (upd (si 384) (100 + 16 * (I 65).toNatClampNeg + 0) a0) (100 + 16 * (I 65).toNatClampNeg + 1) a1) (100 + 16 * (I 65).toNatClampNeg + 2) a2) (100 + 16 * (I 65).toNatClampNeg + 3) a3) (100 + 16 * (I 65).toNatClampNeg + 4) a4) (100 + 16 * (I 65).toNatClampNeg + 5) a5) (100 + 16 * (I 65).toNatClampNeg + 14) (-1)) 2 (I 65 + 1) → RSL (va_up I 65 (I 65 + 1)) r2 B := fun r2 w69 w70 w73 w74 wo wJ B hB => by
                    subst hB
                    have R79 : R 79 = ri 79 := Ro 79 (by decide)
                    refine RL_cell (a0 := a0) (a1 := a1) (a4 := a4) (a5 := a5) h (by omega) _ rfl (w69.trans R69) (w70.trans R70) (w73.trans R73) (w74.trans R74) (fun t ht => (wo t ht).trans (Ro t ((by decide : ∀ t, t ∈ [75, 225, 226, 227, 228, 229, 230, 231, 232] → t ∉ [69, 70, 71, 72, 73, 74]) t ht))) ?_ ?_ ?_ ?_ ?_ ?_ (fun i h2 hi => ?_)
                    · rcases wJ with ⟨p, e⟩ | ⟨l, l1, l2, l3, e⟩
                      · exact Or.inl ⟨fun c hc => by rw [← gr c hc]; exact p c hc, e.trans R79⟩
                      · exact Or.inr ⟨l, l1, by rw [← gr l l1]; exact l2, fun c x1 x2 => by rw [← gr c x2]; exact l3 c x1 x2, by rw [e, R79]⟩
                    · rw [upd_n _ _ (by omega), upd_n _ _ (by omega), upd_n _ _ (by omega), upd_n _ _ (by omega), upd_n _ _ (by omega), upd_n _ _ (by omega), upd_n _ _ (by omega), Nat.add_zero, upd_s]
                    · rw [upd_n _ _ (by omega), upd_n _ _ (by omega), upd_n _ _ (by omega), upd_n _ _ (by omega), upd_n _ _ (by omega), upd_n _ _ (by omega), upd_s]
                    · rw [upd_n _ _ (by omega), upd_n _ _ (by omega), upd_n _ _ (by omega), upd_s]
                    · rw [upd_n _ _ (by omega), upd_n _ _ (by omega), upd_s]
                    · rw [upd_s, e2]
                    · rw [upd_n _ _ h2, upd_n _ _ (by omega), upd_n _ _ (by omega), upd_n _ _ (by omega), upd_n _ _ (by omega), upd_n _ _ (by omega), upd_n _ _ (by omega), upd_n _ _ (by omega)]
                  rcases jr with ⟨p, e⟩ | ⟨l, l1, l2, l3, e⟩
                  · rw [e, bnV_mk, bnI_mk]
                    refine ⟨rfl, ?_⟩
                    show RSL (va_up I 65 (I 65 + 1)) _ (va_up si 384 _ 384)
                    rw [va_up_self]
                    refine fin _ (va_up_ne _ _ (by decide)) (va_up_ne _ _ (by decide)) (va_up_ne _ _ (by decide)) (va_up_ne _ _ (by decide)) (fun t ht => va_up_ne _ _ ((by decide : ∀ t, t ∈ [75, 225, 226, 227, 228, 229, 230, 231, 232] → t ≠ 80) t ht)) (Or.inl ⟨p, va_up_ne _ _ (by decide)⟩) _ rfl
                  · rw [e, bnV_mk, bnI_mk]
                    refine ⟨rfl, ?_⟩
                    show RSL (va_up I 65 (I 65 + 1)) _ (va_up si 384 _ 384)
                    rw [va_up_self]
                    refine fin _ (va_up_ne _ _ (by decide)) (va_up_ne _ _ (by decide)) (va_up_ne _ _ (by decide)) (va_up_ne _ _ (by decide)) (fun t ht => va_up_ne _ _ ((by decide : ∀ t, t ∈ [75, 225, 226, 227, 228, 229, 230, 231, 232] → t ≠ 79) t ht)) (Or.inr ⟨l, l1, l2, l3, va_up_self _ _ _⟩) _ rfl
                · have d1 := Int32.le_iff_toInt_le.mp (Int32.not_lt.mp q7)
                  have q8 : I 65 = 40 := Int32.toInt_inj.mp (by omega)
                  simp only [if_neg q6, if_neg q7, if_pos q8]; exact cv_no h
end PU15
