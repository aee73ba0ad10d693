/-! ===== pure: what both sides keep of a country besides SEAS and LAND, through months (behind pk12) ===== -/
section PK13
variable {I : Nat → Int32} {J : Nat → Int64} {ri : Nat → Nat → Int32} {rj : Nat → Nat → Int64} {rq : Nat → Nat → Option Nat}
variable {U : Nat → Int32} {V : Nat → Int64} {si : Nat → Nat → Int32} {sj : Nat → Nat → Int64} {sq : Nat → Nat → Option Nat}
variable {tI : Nat → Nat → Int32} {tR : Nat → Nat → Nat → Int32}
/-- AREA: what the latest month left -/
def ARL (I : Nat → Int32) (A : Nat → Int32) : Prop := (A 0 = 0 → I 324 = -1) ∧ (A 0 ≠ 0 → I 324 = A 18)
/-- THE FUND -/
def FUR (I : Nat → Int32) (A : Nat → Int32) : Prop := I 238 = A 17 ∧ I 321 = A 8 ∧ I 323 = A 12 ∧ -1 ≤ (A 12).toInt
/-- all of it -/
def WRA (I : Nat → Int32) (J : Nat → Int64) (ri : Nat → Nat → Int32) (rj : Nat → Nat → Int64) (A : Nat → Int32) : Prop := (ARH (I 320).toNatClampNeg I ri rj A ∧ ARL I A) ∧ FUR I A ∧ (FLK I ri A ∧ LTS I ri A ∧ HLD I ri A) ∧ DRU I J ri A ∧ I 322 = A 11
theorem FUH_of (h : RSL I ri (si 384)) (hF : FUR I (si 384)) (hK : FLK I ri (si 384)) : FUH I ri (si 384) := by
  obtain ⟨f1, f2, f3, f4⟩ := hF
  obtain ⟨i0, ⟨n0, n40⟩, kp⟩ := hK
  obtain ⟨⟨_, ⟨c0, c4⟩, _⟩, _, _, _, _, hld, _⟩ := h
  have zI := clampE (I 0)
  have z65 := clampE (I 65)
  have i0n : (I 0).toInt = (si 384 5).toInt := congrArg Int32.toInt i0
  refine ⟨i0, f1, f2, f3, f4, fun p hp => ?_, fun c hc => ?_⟩
  · obtain ⟨⟨_, _, _, k4, k5, _⟩, _⟩ := kp p (by omega)
    rw [k4, k5]
    exact ⟨Iff.rfl, rfl⟩
  · exact ((hld c (by omega)).2.2.2.2.1).symm
theorem month_W {a0 : Int32} (h : RSL I ri (si 384)) (h6 : (I 320).toInt < 600) (hT : TXS I rq tI tR (si 384)) (hF : FCS I ri (si 384)) (h407 : U 407 = 0) (hW : WRA I J ri rj (si 384)) (h1 : RSL (g_X10_goBy tI tR a0 I J ri rj rq).1 (g_X10_goBy tI tR a0 I J ri rj rq).2.2.1 ((g_X12_month a0 U V si sj sq).2.2.1 384)) : WRA (g_X10_goBy tI tR a0 I J ri rj rq).1 (g_X10_goBy tI tR a0 I J ri rj rq).2.1 (g_X10_goBy tI tR a0 I J ri rj rq).2.2.1 (g_X10_goBy tI tR a0 I J ri rj rq).2.2.2.1 ((g_X12_month a0 U V si sj sq).2.2.1 384) ∧ TXS (g_X10_goBy tI tR a0 I J ri rj rq).1 rq tI tR ((g_X12_month a0 U V si sj sq).2.2.1 384) ∧ FCS (g_X10_goBy tI tR a0 I J ri rj rq).1 (g_X10_goBy tI tR a0 I J ri rj rq).2.2.1 ((g_X12_month a0 U V si sj sq).2.2.1 384) ∧ (g_X12_month a0 U V si sj sq).1 407 = 0 := by
  obtain ⟨⟨wA, wL⟩, wF, ⟨wK, wS, wH⟩, wD, wB⟩ := hW
  have hn : (I 320).toInt = ((I 320).toNatClampNeg : Int) := by
    have z := clampE (I 320)
    have := h.1.1.1
    omega
  have hU := FUH_of h wF wK
  obtain ⟨a1, a2, a3, a4, a5, a6, a7⟩ := goBy_sim (J := J) (V := V) (sj := sj) (sq := sq) (a0 := a0) h h6 hn hT hF h407 wA
  obtain ⟨b1, b2, b3, b4, b5, _⟩ := goBy_F (J := J) (V := V) (sj := sj) (sq := sq) (a0 := a0) h h6 hn hT hF h407 wA wK wS wB
  have fb := g_X10_goBy_f (tI := tI) (tR := tR) (a0 := a0) (I := I) (J := J) (ri := ri) (rj := rj) (rq := rq)
  have hI : ∀ f, f ∈ [96, 98, 238, 65] → (g_X10_goBy tI tR a0 I J ri rj rq).1 f = I f := fun f hf => fb.1 f ((by decide : ∀ f, f ∈ [96, 98, 238, 65] → f ∉ w_X10_goBy.1) f hf)
  have hR : ∀ t, t ∈ [99, 100, 101] → (g_X10_goBy tI tR a0 I J ri rj rq).2.2.1 t = ri t := fun t ht => fb.2.2.1 t ((by decide : ∀ t, t ∈ [99, 100, 101] → t ∉ w_X10_goBy.2.2.1) t ht)
  have e0 := h.2.2.1.1
  have e0' := h1.2.2.1.1
  have v1 : (g_X10_goBy tI tR a0 I J ri rj rq).1 320 = I 320 + 1 := by
    obtain ⟨I1, J1, r1, l1, e1, f1, f2, _⟩ := goBy_v (I := I) (J := J) (ri := ri) (rj := rj) (rq := rq) (tI := tI) (tR := tR) (a0 := a0) h.1 h6
    rw [e1]
    exact f2
  obtain ⟨u1, u2, u3, u4⟩ := a7 hU
  have c0 : (g_X12_month a0 U V si sj sq).2.2.1 384 0 = si 384 0 + 1 := by rw [← e0', v1, e0]
  have n0 := h.1.1.1
  have c0i : ((g_X12_month a0 U V si sj sq).2.2.1 384 0).toInt = (si 384 0).toInt + 1 := by
    rw [c0]
    rw [e0] at h6 n0
    exact t1_one (by omega) (by omega)
  refine ⟨⟨⟨?_, ?_, ?_⟩, ⟨(hI 238 (by decide)).trans (wF.1.trans (b5 17 (by omega)).symm), u1, u2, u3⟩, ⟨b1, b2, b4 wH⟩, fun c hc => ?_, b3⟩, ?_, ?_, a2.trans h407⟩
  · rw [show ((g_X10_goBy tI tR a0 I J ri rj rq).1 320).toNatClampNeg = (I 320).toNatClampNeg + 1 by
      rw [v1]
      have z := clampE (I 320)
      have z2 := clampE (I 320 + 1)
      have := t1_one (x := I 320) (by omega) (by omega)
      omega]
    exact a3
  · intro z
    exfalso
    rw [z] at c0i
    have k0 : (0 : Int32).toInt = 0 := by decide
    rw [e0] at n0
    omega
  · intro _
    exact a1
  · obtain ⟨d1, d2, ⟨d3, d4⟩, d5⟩ := wD c hc
    obtain ⟨g1, g2⟩ := a6 c hc
    have hb4 := a4 c hc
    have hb5 := a5 c hc
    rw [hb4, hI 65 (by decide), hb5, g1, g2]
    by_cases l : c < (I 65).toNatClampNeg
    · rw [if_pos l, if_pos l]
      have eu : undN a0 I ri c = (if dryN a0 I ri c = true then 0 else ri 77 c + 1) := by
        unfold undN dryN
        rw [if_pos l]
        by_cases t : topS (ri 70) (sdN I ri) (reN I ri) (ri 75) c ≤ lvN a0 I ri + ri 230 (tmod (I 320)).toNatClampNeg
        · rw [if_pos t, if_neg (show ¬ decide (c < (I 65).toNatClampNeg ∧ ¬ topS (ri 70) (sdN I ri) (reN I ri) (ri 75) c ≤ lvN a0 I ri + ri 230 (tmod (I 320)).toNatClampNeg) = true from fun y => (of_decide_eq_true y).2 t)]
        · rw [if_neg t, if_pos (show decide (c < (I 65).toNatClampNeg ∧ ¬ topS (ri 70) (sdN I ri) (reN I ri) (ri 75) c ≤ lvN a0 I ri + ri 230 (tmod (I 320)).toNatClampNeg) = true from decide_eq_true ⟨l, t⟩)]
      rw [eu, d2, c0i]
      rw [e0] at h6
      have hs := t1_one (x := si 384 (100 + 16 * c + 11)) (by omega) (by omega)
      refine ⟨rfl, rfl, ?_, fun y => absurd l (by omega)⟩
      by_cases t : dryN a0 I ri c = true
      · rw [if_pos t]
        have k0 : (0 : Int32).toInt = 0 := by decide
        rw [k0]
        omega
      · rw [if_neg t, hs]
        omega
    · have nd : dryN a0 I ri c = false := by
        unfold dryN
        exact decide_eq_false (fun y => l y.1)
      have nu : undN a0 I ri c = ri 77 c := by
        unfold undN
        rw [if_neg l]
      rw [if_neg l, if_neg l, nd, nu, c0i, d1, d5 (by omega)]
      refine ⟨rfl, d2, by omega, fun _ => rfl⟩
  · exact TXS_cg hT (hI 96 (by decide)) (fun _ _ => rfl) (fun _ _ _ _ => ⟨rfl, fun _ _ => rfl⟩) (fun j hj => b5 j (by rcases lz_x hj with y | y <;> omega))
  · exact FCS_cg hF (hI 98 (by decide)) (fun t ht j _ => by rw [hR t ht]) (b5 7 (by omega)) (fun i h1 h2 => b5 i (by omega)) (by rw [b5 6 (by omega)]; exact Int.le_refl _)
theorem month_R {a0 : Int32} (h : RSL I ri (si 384)) (h6 : (I 320).toInt < 600) : RSL (g_X10_goBy tI tR a0 I J ri rj rq).1 (g_X10_goBy tI tR a0 I J ri rj rq).2.2.1 ((g_X12_month a0 U V si sj sq).2.2.1 384) := by
  obtain ⟨I1, J1, r1, l1, e1, f1, f2, f3, f4, f5⟩ := goBy_v (I := I) (J := J) (ri := ri) (rj := rj) (rq := rq) (tI := tI) (tR := tR) (a0 := a0) h.1 h6
  obtain ⟨U1, s1, m1, e2, o2, z0, z4, z5, z12, zo, zk1⟩ := month_v (U := U) (V := V) (sj := sj) (sq := sq) (a0 := a0) h h6
  rw [e1, e2]
  exact RL_month (a0 := a0) h h6 f1 f2 f3 f4 f5 z0 z4 z5 zo
/-- the whole of both sides' countries, and what they answer by -/
def WLD (tI : Nat → Nat → Int32) (tR : Nat → Nat → Nat → Int32) (I : Nat → Int32) (J : Nat → Int64) (ri : Nat → Nat → Int32) (rj : Nat → Nat → Int64) (rq : Nat → Nat → Option Nat) (U A : Nat → Int32) : Prop := RSL I ri A ∧ TXS I rq tI tR A ∧ FCS I ri A ∧ U 407 = 0 ∧ WRA I J ri rj A
theorem months_W0 {a0 a1 : Int32} (h60 : a0.toInt ≤ 60) : ∀ (n : Nat) (x : Int32) (I : Nat → Int32) (J : Nat → Int64) (ri : Nat → Nat → Int32) (rj : Nat → Nat → Int64) (U : Nat → Int32) (si : Nat → Nat → Int32) (sj : Nat → Nat → Int64), 0 ≤ x.toInt → x.toInt ≤ a0.toInt → (60 - x.toInt).toNat < n → (I 320).toInt + (a0.toInt - x.toInt) ≤ 600 → WLD tI tR I J ri rj rq U (si 384) → ∃ (I1 : Nat → Int32) (J1 : Nat → Int64) (r1 : Nat → Nat → Int32) (l1 : Nat → Nat → Int64) (U1 : Nat → Int32) (s1 : Nat → Nat → Int32) (m1 : Nat → Nat → Int64), g_X11_months_L15 a0 a1 rq tI tR n x I J ri rj = (I1 320, I1, J1, r1, l1, rq) ∧ g_X12_months_L15 a0 a1 V sq n x U si sj = (s1 384 0, U1, V, s1, m1, sq) ∧ WLD tI tR I1 J1 r1 l1 rq U1 (s1 384) := by
  intro n
  induction n with
  | zero => intro x _ _ _ _ _ _ _ _ _ h; exact absurd h (Nat.not_lt_zero _)
  | succ n ih =>
    intro x I J ri rj U si sj h1 h2 h3 h4 h
    rw [g_X11_months_L15_e, g_X12_months_L15_e]
    by_cases d : a0 ≤ x
    · simp only [if_pos d, ↓ap1_n]
      exact ⟨I, J, ri, rj, U, si, sj, rfl, by rw [show (0 : Int32).toNatClampNeg = 0 from by decide], h⟩
    · have d1 := Int32.lt_iff_toInt_lt.mp (Int32.not_le.mp d)
      have e := t1_inc (x := x) (by omega) (by omega)
      simp only [if_neg d, ↓ap1_n]
      obtain ⟨w1, w2, w3, w4, w5⟩ := h
      have n0 := w1.1.1.1
      have wr := month_R (J := J) (rj := rj) (rq := rq) (U := U) (V := V) (sj := sj) (sq := sq) (tI := tI) (tR := tR) (a0 := a1) w1 (by omega)
      obtain ⟨y1, y2, y3, y4⟩ := month_W (J := J) (rj := rj) (V := V) (sj := sj) (sq := sq) (a0 := a1) w1 (by omega) w2 w3 w4 w5 wr
      have fb := g_X10_goBy_f (tI := tI) (tR := tR) (a0 := a1) (I := I) (J := J) (ri := ri) (rj := rj) (rq := rq)
      have fm := g_X12_month_f (a0 := a1) (I := U) (J := V) (ri := si) (rj := sj) (rq := sq)
      have v1 : (g_X10_goBy tI tR a1 I J ri rj rq).1 320 = I 320 + 1 := by
        obtain ⟨I1, J1, r1, l1, e1, f1, f2, _⟩ := goBy_v (I := I) (J := J) (ri := ri) (rj := rj) (rq := rq) (tI := tI) (tR := tR) (a0 := a1) w1.1 (by omega)
        rw [e1]
        exact f2
      have q0 : (I 320 + 1).toInt = (I 320).toInt + 1 := t1_one (by omega) (by omega)
      generalize g_X10_goBy tI tR a1 I J ri rj rq = b at wr y1 y2 y3 fb v1 ⊢
      generalize g_X12_month a1 U V si sj sq = c at wr y1 y2 y3 y4 fm ⊢
      obtain ⟨I1, J1, r1, l1, q1⟩ := b
      obtain ⟨U1, V1, s1, m1, n1⟩ := c
      have eq1 : q1 = rq := funext (fun t => fb.2.2.2.2 t (fun y => by cases (show t ∈ ([] : List Nat) from y)))
      have eV : V1 = V := funext (fun t => fm.2.1 t (fun y => by cases (show t ∈ ([] : List Nat) from y)))
      have en : n1 = sq := funext (fun t => fm.2.2.2.2 t (fun y => by cases (show t ∈ ([] : List Nat) from y)))
      subst eq1 eV en
      rw [bnV_mk, bnV_mk]
      have v1' : I1 320 = I 320 + 1 := v1
      exact ih (x + Int32.ofInt 1) I1 J1 r1 l1 U1 s1 m1 (by omega) (by omega) (by omega) (by rw [v1', q0]; omega) ⟨wr, y2, y3, y4, y1⟩
/-- answer and countries -/
def WLDv (tI : Nat → Nat → Int32) (tR : Nat → Nat → Nat → Int32) (b c : Int32 × vM) : Prop := b.1 = c.1 ∧ WLD tI tR b.2.1 b.2.2.1 b.2.2.2.1 b.2.2.2.2.1 b.2.2.2.2.2 c.2.1 (c.2.2.2.1 384)
theorem months_W {a0 a1 : Int32} (h : WLD tI tR I J ri rj rq U (si 384)) : WLDv tI tR (g_X11_months tI tR a0 a1 I J ri rj rq) (g_X12_months a0 a1 U V si sj sq) := by
  obtain ⟨v, c1, c2, c3⟩ := canTime (a0 := a0) (a1 := a1) (J := J) (rj := rj) (rq := rq) (U := U) (V := V) (sj := sj) (sq := sq) h.1
  rw [g_X11_months_e, g_X12_months_e, c1, c2, bnI_mk, bnI_mk]
  by_cases q : v = 0
  · simp only [if_pos q]
    exact ⟨rfl, h⟩
  · simp only [if_neg q]
    obtain ⟨b1, b2, b3, b4, b5⟩ := c3 q
    have k0 : (0 : Int32).toInt = 0 := by decide
    obtain ⟨I1, J1, r1, l1, U1, s1, m1, d1, d2, d3⟩ := months_W0 (rq := rq) (V := V) (sq := sq) (tI := tI) (tR := tR) (a0 := a0) (a1 := a1) b4 ((60 - (0 : Int32).toInt).toNat + 1) 0 I J ri rj U si sj (by omega) (by omega) (by omega) (by omega) h
    rw [d1, d2]
    exact ⟨d3.1.2.2.1.1, d3⟩
end PK13
