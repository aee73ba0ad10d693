/-! ===== pure: KEEPS on both sides ===== -/
section PU14
variable {nI : Nat → Int32} {nJ : Nat → Int64} {nR : Nat → Nat → Int32} {nL : Nat → Nat → Int64} {nQ : Nat → Nat → Option Nat}
variable {I : Nat → Int32} {J : Nat → Int64} {ri : Nat → Nat → Int32} {rj : Nat → Nat → Int64} {rq : Nat → Nat → Option Nat}
variable {U : Nat → Int32} {V : Nat → Int64} {si : Nat → Nat → Int32} {sj : Nat → Nat → Int64} {sq : Nat → Nat → Option Nat}
theorem zn_rl {i : Nat} (h : zn i ∈ rlz) : i < 12720 := by
  by_cases q : i < 12720
  · exact q
  · have e : zn i = 999 := by
      unfold zn
      rw [if_neg (by omega), if_neg (by omega), if_neg (by omega), if_neg (by omega), if_neg (by omega), if_neg (by omega), if_neg (by omega), if_neg (by omega), if_neg (by omega), if_neg (by omega), if_neg (by omega), if_neg (by omega)]
    rw [e] at h
    exact absurd h (by decide)
theorem cellAt_m4 {x : Int32} (h0 : 0 ≤ x.toInt) (h1 : x.toInt ≤ 39) : g_X12_cellAt_c4 x U V si sj sq = (si 384 (100 + 16 * x.toNatClampNeg + 4), U, V, si, sj, sq) := by
  rw [cellAt_v4, ixk (c := x) (k := 4) 4 (by decide) (by decide) h0 h1]
theorem cellAt_m6 {x : Int32} (h0 : 0 ≤ x.toInt) (h1 : x.toInt ≤ 39) : g_X12_cellAt_c6 x U V si sj sq = (si 384 (100 + 16 * x.toNatClampNeg + 6), U, V, si, sj, sq) := by
  rw [cellAt_v6, ixk (c := x) (k := 6) 6 (by decide) (by decide) h0 h1]
/-- the SAND behind some months: the class walks it alone, the reference lets the months go by -/
theorem sb_l {a1 a2 a3 : Int32} (h60 : a3.toInt ≤ 60) (hc0 : 0 ≤ a1.toInt) (hc1 : a1.toInt ≤ 39) : ∀ (n : Nat) (x : Int32) (I : Nat → Int32) (ri : Nat → Nat → Int32) (G : Nat → Int32) (gr : Nat → Nat → Int32) (U : Nat → Int32) (si : Nat → Nat → Int32) (sj : Nat → Nat → Int64), 0 ≤ x.toInt → x.toInt ≤ a3.toInt → (60 - x.toInt).toNat < n → (I 320).toInt + a3.toInt ≤ 600 → 0 ≤ (I 320).toInt → G 320 = I 320 + x → G 65 = I 65 → (∀ t, t ∈ [73, 75, 79, 232] → gr t = ri t) → RSL G gr (si 384) → ∃ (v : Int32) (I1 : Nat → Int32) (r1 : Nat → Nat → Int32) (U1 : Nat → Int32) (s1 : Nat → Nat → Int32) (m1 : Nat → Nat → Int64), g_X10_sandBehind_L2 a3 a1 J rj rq n x I ri = (v, I1, J, r1, rj, rq) ∧ g_X12_sandBehind_L3 a1 a2 a3 V sq n x U si sj = (v, U1, V, va_up s1 384 (va_cpy (s1 386) (s1 384) 0 0 12720), m1, sq) ∧ ∀ t, t ∉ [384, 405, 409, 411, 412] → s1 t = si t := by
  intro n
  induction n with
  | zero => intro x _ _ _ _ _ _ _ _ _ h; exact absurd h (Nat.not_lt_zero _)
  | succ n ih =>
    intro x I ri G gr U si sj h1 h2 h3 h4 h5 hG h65 hR h
    rw [g_X10_sandBehind_L2_e, g_X12_sandBehind_L3_e]
    have zc := clampE a1
    by_cases d : a3 ≤ x
    · simp only [if_pos d, ↓ap1_n]
      rw [cellAt_m4 hc0 hc1, bnI_mk]
      refine ⟨ri 73 a1.toNatClampNeg, I, ri, U, si, sj, rfl, ?_, fun _ _ => rfl⟩
      rw [(h.2.2.2.2.2.1 a1.toNatClampNeg (by omega)).2.2.1, hR 73 (by decide)]
    · have d1 := Int32.lt_iff_toInt_lt.mp (Int32.not_le.mp d)
      have e := t1_inc (x := x) (by omega) (by omega)
      have ex : (I 320 + x).toInt = (I 320).toInt + x.toInt := i_add rfl rfl (by omega) (by omega)
      have g6 : (G 320).toInt < 600 := by rw [hG, ex]; omega
      simp only [if_neg d, ↓ap1_n]
      obtain ⟨I1, g, hI, hw⟩ := walk_v (I := I) (J := J) (ri := ri) (rj := rj) (rq := rq) (a0 := ri 232 (I 320 + x - (I 320 + x) / 12 * 12).toNatClampNeg) (by rw [← h65]; exact h.1.2.1.1) (by rw [← h65]; exact h.1.2.1.2)
      obtain ⟨U1, s1, m1, e2, o2, z0, z4, z5, z12, zo, -⟩ := month_v (U := U) (V := V) (sj := sj) (sq := sq) (a0 := a2) h g6
      rw [hw, e2, bnV_mk, bnV_mk]
      have hs : skS (ri 232 (I 320 + x - (I 320 + x) / 12 * 12).toNatClampNeg) (ri 79) (ri 75) (ri 73) (I 65).toNatClampNeg = sdN G gr := by
        unfold sdN tmod
        rw [hG, h65, hR 73 (by decide), hR 75 (by decide), hR 79 (by decide), hR 232 (by decide)]
      have q0 : (G 320 + 1).toInt = (G 320).toInt + 1 := t1_one (by rw [hG, ex]; omega) (by omega)
      have hRL := RL_month (I1 := va_up G 320 (G 320 + 1)) (r1 := va_up (va_up gr 73 (sdN G gr)) 74 (reN G gr)) (s1 := s1) (a0 := a2) h g6 (fun f hf => va_up_ne _ _ ((by decide : ∀ f, f ∈ [64, 65, 224, 234, 235, 236] → f ≠ 320) f hf)) (va_up_self _ _ _) (by rw [va_up_ne _ _ (show (73 : Nat) ≠ 74 by decide), va_up_self]) (va_up_self _ _ _) (fun t ht => by
        have D := (by decide : ∀ t, t ∈ [69, 70, 75, 79, 225, 226, 227, 228, 229, 230, 231, 232] → t ≠ 74 ∧ t ≠ 73) t ht
        rw [va_up_ne _ _ D.1, va_up_ne _ _ D.2]) z0 z4 z5 zo
      have i320 : I1 320 = I 320 := hI 320 (by decide)
      have i65 : I1 65 = I 65 := hI 65 (by decide)
      obtain ⟨v, I2, r2, U2, s2, m2, c1, c2, c3⟩ := ih (x + Int32.ofInt 1) I1 (va_up (va_up ri 81 g) 73 (skS (ri 232 (I 320 + x - (I 320 + x) / 12 * 12).toNatClampNeg) (ri 79) (ri 75) (ri 73) (I 65).toNatClampNeg)) (va_up G 320 (G 320 + 1)) (va_up (va_up gr 73 (sdN G gr)) 74 (reN G gr)) U1 s1 m1 (by omega) (by omega) (by omega) (by rw [i320]; exact h4) (by rw [i320]; exact h5) (by
        rw [va_up_self, i320, hG]
        have ex1 : (I 320 + (x + Int32.ofInt 1)).toInt = (I 320).toInt + (x.toInt + 1) := i_add rfl e (by omega) (by omega)
        rw [hG] at q0
        exact Int32.toInt_inj.mp (by rw [q0, ex1, ex]; omega)) (by rw [va_up_ne _ _ (show (65 : Nat) ≠ 320 by decide), i65]; exact h65) (fun t ht => by
        simp only [List.mem_cons, List.not_mem_nil, or_false] at ht
        rcases ht with y | y | y | y <;> subst y
        · rw [va_up_ne _ _ (show (73 : Nat) ≠ 74 by decide), va_up_self, va_up_self]; exact hs.symm
        · rw [va_up_ne _ _ (show (75 : Nat) ≠ 74 by decide), va_up_ne _ _ (show (75 : Nat) ≠ 73 by decide), va_up_ne _ _ (show (75 : Nat) ≠ 73 by decide), va_up_ne _ _ (show (75 : Nat) ≠ 81 by decide)]; exact hR 75 (by decide)
        · rw [va_up_ne _ _ (show (79 : Nat) ≠ 74 by decide), va_up_ne _ _ (show (79 : Nat) ≠ 73 by decide), va_up_ne _ _ (show (79 : Nat) ≠ 73 by decide), va_up_ne _ _ (show (79 : Nat) ≠ 81 by decide)]; exact hR 79 (by decide)
        · rw [va_up_ne _ _ (show (232 : Nat) ≠ 74 by decide), va_up_ne _ _ (show (232 : Nat) ≠ 73 by decide), va_up_ne _ _ (show (232 : Nat) ≠ 73 by decide), va_up_ne _ _ (show (232 : Nat) ≠ 81 by decide)]; exact hR 232 (by decide)) hRL
      exact ⟨v, I2, r2, U2, s2, m2, c1, c2, fun t ht => (c3 t ht).trans (o2 t ht)⟩
theorem keeps_v {a0 a1 a2 a3 : Int32} (h : RSL nI nR (si 384)) : (g_X11_keeps nI nJ nR nL nQ a0 a1 a2 a3 I J ri rj rq).1 = (g_X12_keeps a0 a1 a2 a3 U V si sj sq).1 := by
  have h' := h
  obtain ⟨⟨⟨m0, m6⟩, ⟨c0, c4⟩, hl⟩, hmx, ⟨e0, e1, e2, e3⟩, hlv, htb, hld, hnx⟩ := h'
  rw [g_X11_keeps_e, g_X12_keeps_e]
  simp only [isCell_c, isCell_m, bnI_mk, ← e2, g_X11_keeps_K32, g_X11_keeps_K33_2, g_X11_keeps_K55_2, g_X12_keeps_K38]
  by_cases q1 : bt a0 0 (nI 65 - 1) = 0
  · simp only [if_pos q1]
  · by_cases q2 : bt a1 0 (nI 65 - 1) = 0
    · simp only [if_neg q1, if_pos q2]
    · have b1 := bt_cell c0 c4 q1
      have b2 := bt_cell c0 c4 q2
      have z0 := clampE a0
      have z1 := clampE a1
      obtain ⟨v, t1, t2, t3⟩ := canTime (a0 := a3) (a1 := a2) (J := nJ) (rj := nL) (rq := nQ) (U := U) (V := V) (sj := sj) (sq := sq) h
      have hw := (hld a0.toNatClampNeg (by omega)).2.2.2.2.1
      simp only [if_neg q1, if_neg q2]
      rw [t1, cellAt_m6 b1.1 (by omega), bnI_mk, bnI_mk, t2, bnI_mk, hw, g_X11_keeps_K33_e]
      simp only [↓ap1_n, g_X11_keeps_K55]
      by_cases q3 : nR 75 a0.toNatClampNeg = 0
      · by_cases q4 : v = 0
        · simp only [if_pos q3, if_pos q4]
        · simp only [if_pos q3, if_neg q4]
      · by_cases q4 : v = 0
        · simp only [if_neg q3, if_pos q4]
        · obtain ⟨b3, b4, b5, b6, b7⟩ := t3 q4
          simp only [if_neg q3, if_neg q4]
          have k0 : (0 : Int32).toInt = 0 := by decide
          have hq : QC nI nR (g_X10_copyFrom nI nJ nR nL nQ I J ri rj rq) := copyFrom_v
          generalize g_X10_copyFrom nI nJ nR nL nQ I J ri rj rq = b at hq ⊢
          obtain ⟨I1, J1, r1, l1, rq1⟩ := b
          rw [bnV_mk, g_X10_sandBehind_e, g_X12_sandBehind_e]
          generalize hS : va_up si 386 (va_cpy (si 384) (si 386) 0 0 12720) = S
          have s384 : S 384 = si 384 := by rw [← hS]; exact va_up_ne _ _ (by decide)
          have s386 : ∀ i, i < 12720 → S 386 i = si 384 i := fun i hi => by rw [← hS, va_up_self]; exact cpy_v hi
          have i320 : I1 320 = nI 320 := hq.1 320 (by decide)
          have hR1 : RSL I1 r1 (S 384) := by rw [s384]; exact RL_copy h hq (fun _ _ => rfl) hmx
          obtain ⟨v1, I2, r2, U1, s1, n1, c1, c2, c3⟩ := sb_l (J := J1) (rj := l1) (rq := rq1) (V := V) (sq := sq) (a1 := a1) (a2 := a2) (a3 := a3) b6 b2.1 (by omega) ((60 - (0 : Int32).toInt).toNat + 1) 0 I1 r1 I1 r1 U S sj (by omega) (by omega) (by omega) (by rw [i320]; exact b7) (by rw [i320]; exact m0) (by rw [Int32.add_zero]) rfl (fun _ _ => rfl) hR1
          rw [c1, c2, bnI_mk, bnI_mk]
          have hq2 : QC nI nR (g_X10_copyFrom nI nJ nR nL nQ I2 J1 r2 l1 rq1) := copyFrom_v
          generalize g_X10_copyFrom nI nJ nR nL nQ I2 J1 r2 l1 rq1 = b at hq2 ⊢
          obtain ⟨I3, J3, r3, l3, rq3⟩ := b
          rw [bnV_mk]
          have i6 := ixk (c := a0) (k := 6) 6 (by decide) (by decide) b1.1 (by omega)
          simp only [i6, va_up_self, up_up]
          rw [g_X10_sandBehind_e, g_X12_sandBehind_e]
          have t386 : s1 386 = S 386 := c3 386 (by decide)
          generalize hT : upd (va_cpy (s1 386) (s1 384) 0 0 12720) (100 + 16 * a0.toNatClampNeg + 6) 0 = T
          have hM : ∀ i, i < 12720 → va_cpy (s1 386) (s1 384) 0 0 12720 i = si 384 i := fun i hi => by rw [cpy_v hi, t386]; exact s386 i hi
          have hR2 : RSL I3 r3 (va_cpy (s1 386) (s1 384) 0 0 12720) := RL_copy h hq2 (fun i hi => hM i (zn_rl hi)) (by
            show (0 ≤ (va_cpy (s1 386) (s1 384) 0 0 12720 1).toInt ∧ (va_cpy (s1 386) (s1 384) 0 0 12720 1).toInt ≤ 5) ∧ (0 ≤ (va_cpy (s1 386) (s1 384) 0 0 12720 5).toInt ∧ (va_cpy (s1 386) (s1 384) 0 0 12720 5).toInt ≤ 40) ∧ (va_cpy (s1 386) (s1 384) 0 0 12720 4).toInt ≤ 5
            rw [hM 1 (by decide), hM 5 (by decide), hM 4 (by decide)]; exact hmx)
          have hR3 := RL_wall (a0 := a0) (a1 := 0) hR2 b1.1 (by omega) (by omega)
          rw [hT] at hR3
          have j320 : I3 320 = nI 320 := hq2.1 320 (by decide)
          have u384 : va_up s1 384 T 384 = T := va_up_self _ _ _
          obtain ⟨v2, I4, r4, U4, s4, n4, d1, d2, d3⟩ := sb_l (J := J3) (rj := l3) (rq := rq3) (V := V) (sq := sq) (a1 := a1) (a2 := a2) (a3 := a3) b6 b2.1 (by omega) ((60 - (0 : Int32).toInt).toNat + 1) 0 I3 (va_up r3 75 (upd (r3 75) a0.toNatClampNeg 0)) I3 (va_up r3 75 (upd (r3 75) a0.toNatClampNeg 0)) U1 (va_up s1 384 T) n1 (by omega) (by omega) (by omega) (by rw [j320]; exact b7) (by rw [j320]; exact m0) (by rw [Int32.add_zero]) rfl (fun _ _ => rfl) (by rw [u384]; exact hR3)
          rw [d1, d2, bnI_mk, bnI_mk]
end PU14
