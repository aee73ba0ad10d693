/-! ===== pure: what single calls leave of it, both sides (behind pk13) ===== -/
section PK14
variable {I : Nat → Int32} {J : Nat → Int64} {ri : Nat → Nat → Int32} {rj : Nat → Nat → Int64} {rq : Nat → Nat → Option Nat}
variable {U : Nat → Int32} {V : Nat → Int64} {si : Nat → Nat → Int32} {sj : Nat → Nat → Int64} {sq : Nat → Nat → Option Nat}
variable {tI : Nat → Nat → Int32} {tR : Nat → Nat → Nat → Int32}
/-! congruences -/
section CG2
variable {I1 : Nat → Int32} {J1 : Nat → Int64} {r1 : Nat → Nat → Int32} {l1 : Nat → Nat → Int64} {A A1 : Nat → Int32}
theorem ARH_cg {n : Nat} (h : ARH n I ri rj A) (h237 : I1 237 = I 237) (h65 : I1 65 = I 65) (hr : ∀ c, c < 40 → r1 71 c = ri 71 c ∧ r1 72 c = ri 72 c) (hl : ∀ f, f < 600 → ∀ c, c < 40 → hb (l1 68 f) c = hb (rj 68 f) c) (hn : n ≤ 600) (h40 : (I 65).toNatClampNeg ≤ 40) (h16 : A1 16 = A 16) (hA : ∀ c k, c < 40 → k ∈ [2, 3] → A1 (100 + 16 * c + k) = A (100 + 16 * c + k)) (hK : ∀ i, 2520 ≤ i → i < 3720 → A1 i = A i) : ARH n I1 r1 l1 A1 := by
  obtain ⟨a, b, c, d⟩ := h
  refine ⟨by rw [h237, h16]; exact a, by rw [h16]; exact b, fun z hz => ?_, fun f hf z hz => ?_⟩
  · rw [(hr z hz).1, (hr z hz).2, hA z 2 hz (by decide), hA z 3 hz (by decide)]
    exact c z hz
  · rw [h65] at hz
    rw [hl f (by omega) z (by omega), d f hf z hz]
    unfold rkA
    rw [hK _ (by omega) (by omega), hK _ (by omega) (by omega)]
theorem ARL_cg (h : ARL I A) (h324 : I1 324 = I 324) (h0 : A1 0 = A 0) (h18 : A1 18 = A 18) : ARL I1 A1 := by
  unfold ARL
  rw [h324, h0, h18]
  exact h
theorem FUR_cg (h : FUR I A) (hI : ∀ f, f ∈ [238, 321, 323] → I1 f = I f) (hA : ∀ i, i ∈ [8, 12, 17] → A1 i = A i) : FUR I1 A1 := by
  unfold FUR
  rw [hI 238 (by decide), hI 321 (by decide), hI 323 (by decide), hA 8 (by decide), hA 12 (by decide), hA 17 (by decide)]
  exact h
end CG2
/-! shapes -/
def AR1 (b c : Int32 × vM) : Prop := ARH (b.2.1 320).toNatClampNeg b.2.1 b.2.2.2.1 b.2.2.2.2.1 (c.2.2.2.1 384) ∧ ARL b.2.1 (c.2.2.2.1 384)
def FU1 (b c : Int32 × vM) : Prop := FUR b.2.1 (c.2.2.2.1 384)
def LT1 (b c : Int32 × vM) : Prop := LTS b.2.1 b.2.2.2.1 (c.2.2.2.1 384)
def HL1 (b c : Int32 × vM) : Prop := HLD b.2.1 b.2.2.2.1 (c.2.2.2.1 384)
def DR1 (b c : Int32 × vM) : Prop := DRU b.2.1 b.2.2.1 b.2.2.2.1 (c.2.2.2.1 384)
def BT1 (b c : Int32 × vM) : Prop := b.2.1 322 = c.2.2.2.1 384 11
/-- rules -/
theorem rules_A {a0 a1 a2 a3 a4 : Int32} (hA : ARH (I 320).toNatClampNeg I ri rj (si 384) ∧ ARL I (si 384)) (hF : FUR I (si 384)) : AR1 (g_X11_rules a0 a1 a2 a3 a4 I J ri rj rq) (g_X12_rules a0 a1 a2 a3 a4 U V si sj sq) ∧ FU1 (g_X11_rules a0 a1 a2 a3 a4 I J ri rj rq) (g_X12_rules a0 a1 a2 a3 a4 U V si sj sq) := by
  have no : ∀ v w : Int32, AR1 (v, I, J, ri, rj, rq) (w, U, V, si, sj, sq) ∧ FU1 (v, I, J, ri, rj, rq) (w, U, V, si, sj, sq) := fun _ _ => ⟨hA, hF⟩
  rw [g_X11_rules_e, g_X12_rules_e]
  simp only [↓ap1_n, between_b, isIn_b, g_X11_rules_K55, g_X11_rules_K56_2, g_X12_rules_K51, g_X11_rules_K56, show (13 : Int32).toNatClampNeg = 13 from by decide, show (14 : Int32).toNatClampNeg = 14 from by decide, show (15 : Int32).toNatClampNeg = 15 from by decide, show (16 : Int32).toNatClampNeg = 16 from by decide, show (17 : Int32).toNatClampNeg = 17 from by decide]
  by_cases q0 : bt a0 0 40 = 0
  · simp only [if_pos q0]; exact no _ _
  · by_cases q1 : bt a1 0 5 = 0
    · simp only [if_neg q0, if_pos q1]; exact no _ _
    · by_cases q2 : bt a2 0 50 = 0
      · simp only [if_neg q0, if_neg q1, if_pos q2]; exact no _ _
      · by_cases q3 : bt a3 1 20 = 0
        · simp only [if_neg q0, if_neg q1, if_neg q2, if_pos q3]; exact no _ _
        · by_cases q4 : bt a4 0 100 = 0
          · simp only [if_neg q0, if_neg q1, if_neg q2, if_neg q3, if_pos q4]; exact no _ _
          · simp only [if_neg q0, if_neg q1, if_neg q2, if_neg q3, if_neg q4, va_up_self, up_up]
            have b := bt_n q3
            have k1 : (1 : Int32).toInt = 1 := by decide
            have k20 : (20 : Int32).toInt = 20 := by decide
            obtain ⟨⟨x1, x2, x3, x4⟩, xl⟩ := hA
            obtain ⟨f1, f2, f3, f4⟩ := hF
            have o : ∀ f, f ≠ 234 → f ≠ 235 → f ≠ 236 → f ≠ 237 → f ≠ 238 → va_up (va_up (va_up (va_up (va_up I 234 a0) 235 a1) 236 a2) 237 a3) 238 a4 f = I f := fun f h1 h2 h3 h4 h5 => by rw [va_up_ne _ _ h5, va_up_ne _ _ h4, va_up_ne _ _ h3, va_up_ne _ _ h2, va_up_ne _ _ h1]
            have oA : ∀ i, i ≠ 13 → i ≠ 14 → i ≠ 15 → i ≠ 16 → i ≠ 17 → upd (upd (upd (upd (upd (si 384) 13 a0) 14 a1) 15 a2) 16 a3) 17 a4 i = si 384 i := fun i h1 h2 h3 h4 h5 => by rw [upd_n _ _ h5, upd_n _ _ h4, upd_n _ _ h3, upd_n _ _ h2, upd_n _ _ h1]
            have e16 : upd (upd (upd (upd (upd (si 384) 13 a0) 14 a1) 15 a2) 16 a3) 17 a4 16 = a3 := by rw [upd_n _ _ (by decide), upd_s]
            have e17 : upd (upd (upd (upd (upd (si 384) 13 a0) 14 a1) 15 a2) 16 a3) 17 a4 17 = a4 := upd_s _ _ _
            have i237 : va_up (va_up (va_up (va_up (va_up I 234 a0) 235 a1) 236 a2) 237 a3) 238 a4 237 = a3 := by rw [va_up_ne _ _ (show (237 : Nat) ≠ 238 by decide), va_up_self]
            have i238 : va_up (va_up (va_up (va_up (va_up I 234 a0) 235 a1) 236 a2) 237 a3) 238 a4 238 = a4 := va_up_self _ _ _
            generalize va_up (va_up (va_up (va_up (va_up I 234 a0) 235 a1) 236 a2) 237 a3) 238 a4 = I1 at o i237 i238 ⊢
            generalize upd (upd (upd (upd (upd (si 384) 13 a0) 14 a1) 15 a2) 16 a3) 17 a4 = A at oA e16 e17 ⊢
            have eS : va_up si 384 A 384 = A := va_up_self _ _ _
            refine ⟨⟨?_, ?_⟩, ?_⟩
            · show ARH (I1 320).toNatClampNeg I1 ri rj (va_up si 384 A 384)
              rw [eS, o 320 (by decide) (by decide) (by decide) (by decide) (by decide)]
              refine ⟨by rw [i237, e16], by rw [e16]; omega, fun c hc => ?_, fun f hf c hc => ?_⟩
              · rw [oA _ (by omega) (by omega) (by omega) (by omega) (by omega), oA _ (by omega) (by omega) (by omega) (by omega) (by omega)]
                exact x3 c hc
              · rw [o 65 (by decide) (by decide) (by decide) (by decide) (by decide)] at hc
                rw [x4 f hf c hc]
                unfold rkA
                rw [oA _ (by omega) (by omega) (by omega) (by omega) (by omega), oA _ (by omega) (by omega) (by omega) (by omega) (by omega)]
            · show ARL I1 (va_up si 384 A 384)
              rw [eS]
              exact ARL_cg xl (o 324 (by decide) (by decide) (by decide) (by decide) (by decide)) (oA 0 (by decide) (by decide) (by decide) (by decide) (by decide)) (oA 18 (by decide) (by decide) (by decide) (by decide) (by decide))
            · show FUR I1 (va_up si 384 A 384)
              rw [eS]
              refine ⟨by rw [i238, e17], ?_, ?_, ?_⟩
              · rw [o 321 (by decide) (by decide) (by decide) (by decide) (by decide), oA 8 (by decide) (by decide) (by decide) (by decide) (by decide)]
                exact f2
              · rw [o 323 (by decide) (by decide) (by decide) (by decide) (by decide), oA 12 (by decide) (by decide) (by decide) (by decide) (by decide)]
                exact f3
              · rw [oA 12 (by decide) (by decide) (by decide) (by decide) (by decide)]
                exact f4
/-- sail -/
theorem sail_F {a0 a1 : Int32} (hF : FUR I (si 384)) (hB : I 322 = si 384 11) : FU1 (g_X11_sail a0 a1 I J ri rj rq) (g_X12_sail a0 a1 U V si sj sq) ∧ BT1 (g_X11_sail a0 a1 I J ri rj rq) (g_X12_sail a0 a1 U V si sj sq) := by
  have no : ∀ v w : Int32, FU1 (v, I, J, ri, rj, rq) (w, U, V, si, sj, sq) ∧ BT1 (v, I, J, ri, rj, rq) (w, U, V, si, sj, sq) := fun _ _ => ⟨hF, hB⟩
  rw [g_X11_sail_e, g_X12_sail_e]
  simp only [↓ap1_n, between_b, isIn_b, g_X11_sail_K20, g_X12_sail_K20, show (11 : Int32).toNatClampNeg = 11 from by decide, show (8 : Int32).toNatClampNeg = 8 from by decide, va_up_self, up_up]
  by_cases q0 : bt a0 0 40 = 0
  · simp only [if_pos q0]; exact no _ _
  · by_cases q1 : bt a1 0 100000 = 0
    · simp only [if_neg q0, if_pos q1]; exact no _ _
    · simp only [if_neg q0, if_neg q1]
      obtain ⟨f1, f2, f3, f4⟩ := hF
      refine ⟨⟨?_, ?_, ?_, ?_⟩, ?_⟩
      · show va_up (va_up I 322 a0) 321 (va_up I 322 a0 321 + a1) 238 = va_up si 384 (upd (upd (si 384) 11 a0) 8 (upd (si 384) 11 a0 8 + a1)) 384 17
        rw [va_up_self, va_up_ne _ _ (show (238 : Nat) ≠ 321 by decide), va_up_ne _ _ (show (238 : Nat) ≠ 322 by decide), upd_n _ _ (by decide), upd_n _ _ (by decide)]
        exact f1
      · show va_up (va_up I 322 a0) 321 (va_up I 322 a0 321 + a1) 321 = va_up si 384 (upd (upd (si 384) 11 a0) 8 (upd (si 384) 11 a0 8 + a1)) 384 8
        rw [va_up_self, va_up_self, upd_s, va_up_ne _ _ (show (321 : Nat) ≠ 322 by decide), upd_n _ _ (by decide), f2]
      · show va_up (va_up I 322 a0) 321 (va_up I 322 a0 321 + a1) 323 = va_up si 384 (upd (upd (si 384) 11 a0) 8 (upd (si 384) 11 a0 8 + a1)) 384 12
        rw [va_up_self, va_up_ne _ _ (show (323 : Nat) ≠ 321 by decide), va_up_ne _ _ (show (323 : Nat) ≠ 322 by decide), upd_n _ _ (by decide), upd_n _ _ (by decide)]
        exact f3
      · show -1 ≤ (va_up si 384 (upd (upd (si 384) 11 a0) 8 (upd (si 384) 11 a0 8 + a1)) 384 12).toInt
        rw [va_up_self, upd_n _ _ (by decide), upd_n _ _ (by decide)]
        exact f4
      · show va_up (va_up I 322 a0) 321 (va_up I 322 a0 321 + a1) 322 = va_up si 384 (upd (upd (si 384) 11 a0) 8 (upd (si 384) 11 a0 8 + a1)) 384 11
        rw [va_up_self, va_up_ne _ _ (show (322 : Nat) ≠ 321 by decide), va_up_self, upd_n _ _ (by decide), upd_s]
/-- lot -/
theorem lot_L {a0 : Int32} (hL : LTS I ri (si 384)) : LT1 (g_X11_lot a0 I J ri rj rq) (g_X12_lot a0 U V si sj sq) := by
  have no : ∀ v w : Int32, LT1 (v, I, J, ri, rj, rq) (w, U, V, si, sj, sq) := fun _ _ => hL
  have k5 : (5 : Int32).toInt = 5 := by decide
  rw [g_X11_lot_e, g_X12_lot_e]
  simp only [↓ap1_n, between_b, isIn_b, g_X11_lot_K26, g_X12_lot_K20, show (4 : Int32).toNatClampNeg = 4 from by decide, va_up_self, up_up]
  by_cases q0 : bt a0 0 60 = 0
  · simp only [if_pos q0]; exact no _ _
  · simp only [if_neg q0]
    obtain ⟨e, ⟨l0, l5⟩, lb⟩ := hL
    have en : (I 10).toInt = (si 384 4).toInt := congrArg Int32.toInt e
    have b := bt_n q0
    have k0 : (0 : Int32).toInt = 0 := by decide
    have k60 : (60 : Int32).toInt = 60 := by decide
    by_cases q1 : I 10 < 5
    · have d := Int32.lt_iff_toInt_lt.mp q1
      have q2 : ¬ si 384 4 = 5 := fun y => by
        rw [y] at en
        omega
      simp only [if_pos q1, if_neg q2]
      obtain ⟨l, hl⟩ : ∃ l : Nat, (si 384 4).toInt = (l : Int) := ⟨(si 384 4).toInt.toNat, by omega⟩
      have i80 : ((80 : Int32) + si 384 4).toNatClampNeg = 80 + l := at_n ((i_add (show (80 : Int32).toInt = 80 by decide) hl (by omega) (by omega)).trans (by omega))
      rw [i80, e, at_n hl]
      have n1 := t1_one (x := si 384 4) (by omega) (by omega)
      refine ⟨?_, ?_, fun j hj => ?_⟩
      · show va_up I 10 (si 384 4 + 1) 10 = va_up si 384 (upd (upd (si 384) (80 + l) a0) 4 (si 384 4 + 1)) 384 4
        rw [va_up_self, va_up_self, upd_s]
      · show 0 ≤ (va_up si 384 (upd (upd (si 384) (80 + l) a0) 4 (si 384 4 + 1)) 384 4).toInt ∧ (va_up si 384 (upd (upd (si 384) (80 + l) a0) 4 (si 384 4 + 1)) 384 4).toInt ≤ 5
        rw [va_up_self, upd_s, n1]
        omega
      · show va_up ri 11 (upd (ri 11) l a0) 11 j = va_up si 384 (upd (upd (si 384) (80 + l) a0) 4 (si 384 4 + 1)) 384 (80 + j) ∧ (0 ≤ (va_up si 384 (upd (upd (si 384) (80 + l) a0) 4 (si 384 4 + 1)) 384 (80 + j)).toInt ∧ (va_up si 384 (upd (upd (si 384) (80 + l) a0) 4 (si 384 4 + 1)) 384 (80 + j)).toInt ≤ 60)
        rw [va_up_self, va_up_self, upd_n _ _ (show 80 + j ≠ 4 by omega)]
        by_cases x : j = l
        · rw [x, upd_s, upd_s]
          exact ⟨rfl, by omega, by omega⟩
        · rw [upd_n _ _ x, upd_n _ _ (show 80 + j ≠ 80 + l by omega)]
          exact lb j hj
    · have d : ¬ (I 10).toInt < (5 : Int32).toInt := fun y => q1 (Int32.lt_iff_toInt_lt.mpr y)
      have q2 : si 384 4 = 5 := Int32.toInt_inj.mp (by omega)
      simp only [if_neg q1, if_pos q2]
      exact ⟨e, ⟨l0, l5⟩, lb⟩
/-- choose -/
theorem choose_K {a0 a1 : Int32} (hK : FLK I ri (si 384)) : FK1 (g_X11_choose a0 a1 I J ri rj rq) (g_X12_choose a0 a1 U V si sj sq) := by
  have no : ∀ v : Int32, FK1 (v, I, J, ri, rj, rq) (v, U, V, si, sj, sq) := fun _ => ⟨rfl, hK⟩
  have hK' := hK
  obtain ⟨i0, ⟨n0, n40⟩, kp⟩ := hK'
  rw [g_X11_choose_e, g_X12_choose_e, bn_n isPerson_c, bn_n isPerson_m, ← i0]
  simp only [↓ap1_n, between_b, isIn_b, g_X11_choose_K17, g_X12_choose_K17]
  by_cases q0 : bt a0 0 (I 0 - 1) = 0
  · simp only [if_pos q0]; exact no _
  · by_cases q1 : bt a1 (-1) 1 = 0
    · simp only [if_neg q0, if_pos q1]; exact no _
    · simp only [if_neg q0, if_neg q1]
      have b1 := bt_cell (n := I 0) (by rw [i0]; exact n0) (by rw [i0]; exact n40) q0
      have i0n : (I 0).toInt = (si 384 5).toInt := congrArg Int32.toInt i0
      obtain ⟨P, hP⟩ : ∃ P : Nat, a0.toInt = (P : Int) := ⟨a0.toInt.toNat, by omega⟩
      rw [ixp (c := a0) (k := 8) 8 (by decide) (by decide) (by omega) (by omega), at_n hP]
      refine ⟨rfl, ?_, ?_, fun p hp => ?_⟩
      · show I 0 = va_up si 384 (upd (si 384) (740 + 12 * P + 8) a1) 384 5
        rw [va_up_self, upd_n _ _ (by omega)]
        exact i0
      · show 0 ≤ (va_up si 384 (upd (si 384) (740 + 12 * P + 8) a1) 384 5).toInt ∧ (va_up si 384 (upd (si 384) (740 + 12 * P + 8) a1) 384 5).toInt ≤ 40
        rw [va_up_self, upd_n _ _ (by omega)]
        exact ⟨n0, n40⟩
      · obtain ⟨⟨c1, c2, c3, c4, c5, c6⟩, d⟩ := kp p hp
        have o : ∀ t, t ≠ 9 → va_up ri 9 (upd (ri 9) P a1) t = ri t := fun t ht => va_up_ne _ _ ht
        have oA : ∀ k, k < 8 → upd (si 384) (740 + 12 * P + 8) a1 (740 + 12 * p + k) = si 384 (740 + 12 * p + k) := fun k hk => upd_n _ _ (by omega)
        have o0 : upd (si 384) (740 + 12 * P + 8) a1 (740 + 12 * p) = si 384 (740 + 12 * p) := oA 0 (by decide)
        show (va_up ri 9 (upd (ri 9) P a1) 1 p = va_up si 384 (upd (si 384) (740 + 12 * P + 8) a1) 384 (740 + 12 * p) ∧ va_up ri 9 (upd (ri 9) P a1) 2 p = va_up si 384 (upd (si 384) (740 + 12 * P + 8) a1) 384 (740 + 12 * p + 1) ∧ va_up ri 9 (upd (ri 9) P a1) 3 p = va_up si 384 (upd (si 384) (740 + 12 * P + 8) a1) 384 (740 + 12 * p + 2) ∧ va_up ri 9 (upd (ri 9) P a1) 5 p = va_up si 384 (upd (si 384) (740 + 12 * P + 8) a1) 384 (740 + 12 * p + 3) ∧ va_up ri 9 (upd (ri 9) P a1) 4 p = va_up si 384 (upd (si 384) (740 + 12 * P + 8) a1) 384 (740 + 12 * p + 4) ∧ va_up ri 9 (upd (ri 9) P a1) 9 p = va_up si 384 (upd (si 384) (740 + 12 * P + 8) a1) 384 (740 + 12 * p + 8)) ∧ (0 ≤ (va_up si 384 (upd (si 384) (740 + 12 * P + 8) a1) 384 (740 + 12 * p)).toInt ∧ (va_up si 384 (upd (si 384) (740 + 12 * P + 8) a1) 384 (740 + 12 * p)).toInt ≤ 9) ∧ (0 ≤ (va_up si 384 (upd (si 384) (740 + 12 * P + 8) a1) 384 (740 + 12 * p + 1)).toInt ∧ (va_up si 384 (upd (si 384) (740 + 12 * P + 8) a1) 384 (740 + 12 * p + 1)).toInt ≤ 99) ∧ (0 ≤ (va_up si 384 (upd (si 384) (740 + 12 * P + 8) a1) 384 (740 + 12 * p + 2)).toInt ∧ (va_up si 384 (upd (si 384) (740 + 12 * P + 8) a1) 384 (740 + 12 * p + 2)).toInt ≤ 7) ∧ (0 ≤ (va_up si 384 (upd (si 384) (740 + 12 * P + 8) a1) 384 (740 + 12 * p + 3)).toInt ∧ (va_up si 384 (upd (si 384) (740 + 12 * P + 8) a1) 384 (740 + 12 * p + 3)).toInt ≤ 300) ∧ ((va_up si 384 (upd (si 384) (740 + 12 * P + 8) a1) 384 (740 + 12 * p + 3)).toInt < 5 ∨ 100 ≤ (va_up si 384 (upd (si 384) (740 + 12 * P + 8) a1) 384 (740 + 12 * p + 3)).toInt)
        rw [va_up_self, va_up_self, o 1 (by decide), o 2 (by decide), o 3 (by decide), o 5 (by decide), o 4 (by decide), o0, oA 1 (by decide), oA 2 (by decide), oA 3 (by decide), oA 4 (by decide)]
        refine ⟨⟨c1, c2, c3, c4, c5, ?_⟩, d⟩
        by_cases e : p = P
        · rw [e, upd_s, upd_s]
        · rw [upd_n _ _ e, upd_n _ _ (by omega)]
          exact c6
/-- title -/
theorem title_H {a0 a1 : Int32} (h : RSL I ri (si 384)) (hK : FLK I ri (si 384)) (hH : HLD I ri (si 384)) : HL1 (g_X11_title a0 a1 I J ri rj rq) (g_X12_title a0 a1 U V si sj sq) := by
  have no : ∀ v w : Int32, HL1 (v, I, J, ri, rj, rq) (w, U, V, si, sj, sq) := fun _ _ => hH
  obtain ⟨⟨_, ⟨c0, c4⟩, _⟩, _, ⟨_, _, e2, _⟩, _⟩ := h
  obtain ⟨i0, ⟨n0, n40⟩, kp⟩ := hK
  have ic : g_X11_isCell a0 I J ri rj rq = (bt a0 0 (I 65 - 1), I, J, ri, rj, rq) := rfl
  have im : g_X12_isCell a0 U V si sj sq = (bt a0 0 (si 384 2 - 1), U, V, si, sj, sq) := rfl
  rw [g_X11_title_e, g_X12_title_e, bn_n ic, bn_n im, ← e2]
  by_cases q0 : bt a0 0 (I 65 - 1) = 0
  · rw [if_pos q0, if_pos q0]; exact no _ _
  rw [if_neg q0, if_neg q0]
  have b := bt_cell c0 c4 q0
  obtain ⟨C, hC⟩ : ∃ C : Nat, a0.toInt = (C : Int) := ⟨a0.toInt.toNat, by omega⟩
  have yes : (-1 ≤ a1.toInt ∧ a1.toInt ≤ 39) → HL1 (g_X11_title_K41 a0 a1 I J ri rj rq) (g_X12_title_K35 a0 a1 U V si sj sq) := fun hv => by
    rw [g_X11_title_K41_e, g_X11_title_K46_2_e, g_X12_title_K35_e]
    simp only [↓ap1_n]
    rw [g_X11_title_K61_2_e, at_n hC, ixk (c := a0) (k := 14) 14 (by decide) (by decide) (by omega) (by omega), at_n hC]
    intro c hc
    show (c < (I 65).toNatClampNeg → va_up ri 325 (upd (ri 325) C a1) 325 c = va_up si 384 (upd (si 384) (100 + 16 * C + 14) a1) 384 (100 + 16 * c + 14) ∧ (-1 ≤ (va_up si 384 (upd (si 384) (100 + 16 * C + 14) a1) 384 (100 + 16 * c + 14)).toInt ∧ (va_up si 384 (upd (si 384) (100 + 16 * C + 14) a1) 384 (100 + 16 * c + 14)).toInt ≤ 39)) ∧ ((I 65).toNatClampNeg ≤ c → va_up ri 325 (upd (ri 325) C a1) 325 c = -1)
    rw [va_up_self, va_up_self]
    by_cases e : c = C
    · rw [e, upd_s, upd_s]
      exact ⟨fun _ => ⟨rfl, hv⟩, fun y => by have z := clampE (I 65); omega⟩
    · rw [upd_n _ _ e, upd_n _ _ (by omega)]
      exact hH c hc
  by_cases q1 : a1 = -1
  · rw [if_pos q1, if_pos q1]
    exact yes (by rw [q1]; decide)
  rw [if_neg q1, if_neg q1, bn_n isPerson_c, bn_n isPerson_m, ← i0]
  by_cases q2 : bt a1 0 (I 0 - 1) = 0
  · rw [if_pos q2, if_pos q2]; exact no _ _
  rw [if_neg q2, if_neg q2]
  have b1 := bt_cell (n := I 0) (by rw [i0]; exact n0) (by rw [i0]; exact n40) q2
  have i0n : (I 0).toInt = (si 384 5).toInt := congrArg Int32.toInt i0
  obtain ⟨P, hP⟩ : ∃ P : Nat, a1.toInt = (P : Int) := ⟨a1.toInt.toNat, by omega⟩
  simp only [↓ap1_n]
  rw [bn_n (pa3 hP (by omega)), at_n hP, (kp P (by omega)).1.2.2.2.1]
  by_cases q3 : si 384 (740 + 12 * P + 3) = 300
  · rw [if_pos q3, if_pos q3]; exact no _ _
  · rw [if_neg q3, if_neg q3]
    exact yes (by omega)
/-- person -/
theorem person_K {a0 a1 a2 a3 a4 : Int32} (h : RSL I ri (si 384)) (hK : FLK I ri (si 384)) : FK1 (g_X11_person a0 a1 a2 a3 a4 I J ri rj rq) (g_X12_person a0 a1 a2 a3 a4 U V si sj sq) := by
  have no : FK1 ((-1 : Int32), I, J, ri, rj, rq) ((-1 : Int32), U, V, si, sj, sq) := ⟨rfl, hK⟩
  have k0 : (0 : Int32).toInt = 0 := by decide
  have k40 : (40 : Int32).toInt = 40 := by decide
  obtain ⟨_, ⟨⟨r0, r5⟩, _, _⟩, ⟨_, e1, _, _⟩, _⟩ := h
  obtain ⟨i0, ⟨n0, n40⟩, kp⟩ := hK
  have i0n : (I 0).toInt = (si 384 5).toInt := congrArg Int32.toInt i0
  rw [g_X11_person_e, g_X12_person_e]
  simp only [↓ap1_n, between_b, isIn_b, g_X11_person_K54, g_X11_person_K55_2, g_X11_person_K77_2, g_X12_person_K61, show (5 : Int32).toNatClampNeg = 5 from by decide]
  by_cases q0 : bt a0 0 9 = 0
  · simp only [if_pos q0]; exact no
  by_cases q1 : bt a1 0 99 = 0
  · simp only [if_neg q0, if_pos q1]; exact no
  by_cases q2 : bt a2 0 7 = 0
  · simp only [if_neg q0, if_neg q1, if_pos q2]; exact no
  simp only [if_neg q0, if_neg q1, if_neg q2]
  rw [bn_n isRing_c, bn_n isRing_m, ← e1]
  by_cases q3 : bt a3 0 (I 64 - 1) = 0
  · simp only [if_pos q3]; exact no
  by_cases q4 : bt a4 0 100 = 0
  · simp only [if_neg q3, if_pos q4]; exact no
  simp only [if_neg q3, if_neg q4]
  rw [g_X11_person_K55_e]
  simp only [↓ap1_n]
  rw [g_X11_person_K77_e]
  by_cases q5 : I 0 < 40
  · have d := Int32.lt_iff_toInt_lt.mp q5
    have q6 : ¬ si 384 5 = 40 := fun y => by
      rw [y] at i0n
      omega
    obtain ⟨n, hn⟩ : ∃ n : Nat, (si 384 5).toInt = (n : Int) := ⟨(si 384 5).toInt.toNat, by omega⟩
    have hn0 : (I 0).toInt = (n : Int) := by omega
    have b0 := bt_n q0
    have b1 := bt_n q1
    have b2 := bt_n q2
    have b3 := bt_cell (n := I 64) (by rw [e1]; exact r0) (by rw [e1]; omega) q3
    have e1n : (I 64).toInt = (si 384 1).toInt := congrArg Int32.toInt e1
    have k9 : (9 : Int32).toInt = 9 := by decide
    have k99 : (99 : Int32).toInt = 99 := by decide
    have k7 : (7 : Int32).toInt = 7 := by decide
    have s1 := t1_one (x := si 384 5) (by omega) (by omega)
    rw [if_pos q5, if_neg q6, g_X0_addPerson_e]
    simp only [↓ap1_n, va_up_self]
    rw [if_pos q5, bnI_mk, at_n hn0]
    have ix : ∀ (k : Int32) (m : Nat), k.toInt = (m : Int) → m ≤ 11 → ((740 : Int32) + (12 : Int32) * si 384 5 + k).toNatClampNeg = 740 + 12 * n + m := fun k m hk hm => by rw [ixp (c := si 384 5) (k := k) m hk hm (by omega) (by omega), at_n hn]
    rw [ix 0 0 (by decide) (by decide), ix 1 1 (by decide) (by decide), ix 2 2 (by decide) (by decide), ix 3 3 (by decide) (by decide), ix 4 4 (by decide) (by decide), ix 7 7 (by decide) (by decide), ix 8 8 (by decide) (by decide)]
    simp only [up_up]
    -- the class's rows
    generalize eR : va_up (va_up (va_up (va_up (va_up (va_up (va_up (va_up (va_up ri 1 _) 2 _) 3 _) 5 _) 4 _) 6 _) 7 _) 8 _) 9 _ = R
    have R1 : R 1 = upd (ri 1) n a0 := by rw [← eR]; rfl
    have R2 : R 2 = upd (ri 2) n a1 := by rw [← eR]; rfl
    have R3 : R 3 = upd (ri 3) n a2 := by rw [← eR]; rfl
    have R5 : R 5 = upd (ri 5) n a3 := by rw [← eR]; rfl
    have R4 : R 4 = upd (ri 4) n a4 := by rw [← eR]; rfl
    have R9 : R 9 = upd (ri 9) n (-1) := by rw [← eR]; rfl
    refine ⟨?_, ?_⟩
    · show I 0 = si 384 5 + 1 - 1
      rw [i0]
      grind
    · generalize eA : upd (upd (upd (upd (upd (upd (upd (upd (si 384) (740 + 12 * n + 0) a0) (740 + 12 * n + 1) a1) (740 + 12 * n + 2) a2) (740 + 12 * n + 3) a3) (740 + 12 * n + 4) a4) (740 + 12 * n + 7) (-1)) (740 + 12 * n + 8) (-1)) 5 (si 384 5 + 1) = A
      have A5 : A 5 = si 384 5 + 1 := by rw [← eA, upd_s]
      have oA : ∀ i, i ≠ 5 → (i < 740 + 12 * n ∨ 740 + 12 * n + 12 ≤ i) → A i = si 384 i := fun i h1 h2 => by rw [← eA, upd_n _ _ h1, upd_n _ _ (by omega), upd_n _ _ (by omega), upd_n _ _ (by omega), upd_n _ _ (by omega), upd_n _ _ (by omega), upd_n _ _ (by omega), upd_n _ _ (by omega)]
      have A0 : A (740 + 12 * n) = a0 := by rw [← eA, upd_n _ _ (by omega), upd_n _ _ (by omega), upd_n _ _ (by omega), upd_n _ _ (by omega), upd_n _ _ (by omega), upd_n _ _ (by omega), upd_n _ _ (by omega)]; exact upd_s _ _ _
      have A1 : A (740 + 12 * n + 1) = a1 := by rw [← eA, upd_n _ _ (by omega), upd_n _ _ (by omega), upd_n _ _ (by omega), upd_n _ _ (by omega), upd_n _ _ (by omega), upd_n _ _ (by omega), upd_s]
      have A2 : A (740 + 12 * n + 2) = a2 := by rw [← eA, upd_n _ _ (by omega), upd_n _ _ (by omega), upd_n _ _ (by omega), upd_n _ _ (by omega), upd_n _ _ (by omega), upd_s]
      have A3 : A (740 + 12 * n + 3) = a3 := by rw [← eA, upd_n _ _ (by omega), upd_n _ _ (by omega), upd_n _ _ (by omega), upd_n _ _ (by omega), upd_s]
      have A4 : A (740 + 12 * n + 4) = a4 := by rw [← eA, upd_n _ _ (by omega), upd_n _ _ (by omega), upd_n _ _ (by omega), upd_s]
      have A8 : A (740 + 12 * n + 8) = -1 := by rw [← eA, upd_n _ _ (by omega), upd_s]
      show FLK (va_up I 0 (I 0 + 1)) R (va_up si 384 A 384)
      rw [va_up_self]
      refine ⟨by rw [va_up_self, A5, i0], by rw [A5, s1]; omega, fun p hp => ?_⟩
      by_cases e : p = n
      · rw [e, R1, R2, R3, R5, R4, R9, upd_s, upd_s, upd_s, upd_s, upd_s, upd_s, A0, A1, A2, A3, A4, A8]
        exact ⟨⟨rfl, rfl, rfl, rfl, rfl, rfl⟩, by omega, by omega, by omega, by omega, by omega⟩
      · rw [R1, R2, R3, R5, R4, R9, upd_n _ _ e, upd_n _ _ e, upd_n _ _ e, upd_n _ _ e, upd_n _ _ e, upd_n _ _ e, oA _ (by omega) (by omega), oA _ (by omega) (by omega), oA _ (by omega) (by omega), oA _ (by omega) (by omega), oA _ (by omega) (by omega), oA _ (by omega) (by omega)]
        exact kp p hp
  · have d : ¬ (I 0).toInt < (40 : Int32).toInt := fun y => q5 (Int32.lt_iff_toInt_lt.mpr y)
    have q6 : si 384 5 = 40 := Int32.toInt_inj.mp (by omega)
    rw [if_neg q5, if_pos q6]
    exact ⟨rfl, i0, ⟨n0, n40⟩, kp⟩
/-- cell -/
theorem cell_A {a0 a1 a2 a3 a4 a5 : Int32} (h : RSL I ri (si 384)) (hA : ARH (I 320).toNatClampNeg I ri rj (si 384) ∧ ARL I (si 384)) (hD : DRU I J ri (si 384)) (hH : HLD I ri (si 384)) : AR1 (g_X11_cell a0 a1 a2 a3 a4 a5 I J ri rj rq) (g_X12_cell a0 a1 a2 a3 a4 a5 U V si sj sq) ∧ DR1 (g_X11_cell a0 a1 a2 a3 a4 a5 I J ri rj rq) (g_X12_cell a0 a1 a2 a3 a4 a5 U V si sj sq) ∧ HL1 (g_X11_cell a0 a1 a2 a3 a4 a5 I J ri rj rq) (g_X12_cell a0 a1 a2 a3 a4 a5 U V si sj sq) := by
  have no : ∀ v w : Int32, AR1 (v, I, J, ri, rj, rq) (w, U, V, si, sj, sq) ∧ DR1 (v, I, J, ri, rj, rq) (w, U, V, si, sj, sq) ∧ HL1 (v, I, J, ri, rj, rq) (w, U, V, si, sj, sq) := fun _ _ => ⟨hA, hD, hH⟩
  obtain ⟨⟨⟨m0, m6⟩, ⟨c0, c4⟩, hl⟩, hmx, ⟨e0, e1, e2, e3⟩, _⟩ := h
  have k0 : (0 : Int32).toInt = 0 := by decide
  have k40 : (40 : Int32).toInt = 40 := by decide
  rw [g_X11_cell_e, g_X12_cell_e]
  simp only [isRing_c, isRing_m, bnI_mk, ↓ap1_n, between_b, isIn_b, g_X11_cell_K70, g_X11_cell_K71_2, g_X11_cell_K103_2, g_X12_cell_K86, show (2 : Int32).toNatClampNeg = 2 from by decide]
  rw [← e1]
  by_cases q0 : bt a0 0 (I 64 - 1) = 0
  · simp only [if_pos q0]; exact no _ _
  by_cases q1 : bt a1 (-500) 3000 = 0
  · simp only [if_neg q0, if_pos q1]; exact no _ _
  by_cases q2 : bt a2 0 31 = 0
  · simp only [if_neg q0, if_neg q1, if_pos q2]; exact no _ _
  by_cases q3 : bt a3 0 31 = 0
  · simp only [if_neg q0, if_neg q1, if_neg q2, if_pos q3]; exact no _ _
  by_cases q4 : bt a4 0 500 = 0
  · simp only [if_neg q0, if_neg q1, if_neg q2, if_neg q3, if_pos q4]; exact no _ _
  by_cases q5 : bt a5 0 400 = 0
  · simp only [if_neg q0, if_neg q1, if_neg q2, if_neg q3, if_neg q4, if_pos q5]; exact no _ _
  simp only [if_neg q0, if_neg q1, if_neg q2, if_neg q3, if_neg q4, if_neg q5]
  rw [g_X11_cell_K71_e]
  simp only [↓ap1_n, g_X11_cell_K103]
  rw [← e0, ← e2]
  by_cases q6 : (0 : Int32) < I 320
  · simp only [if_pos q6]; exact no _ _
  by_cases q7 : I 65 < 40
  · have d1 := Int32.lt_iff_toInt_lt.mp q7
    have q8 : ¬ I 65 = 40 := fun y => by rw [y] at d1; omega
    have d6 : ¬ (0 : Int32).toInt < (I 320).toInt := fun y => q6 (Int32.lt_iff_toInt_lt.mpr y)
    have z320 : (I 320).toNatClampNeg = 0 := at_n (show (I 320).toInt = ((0 : Nat) : Int) by omega)
    obtain ⟨n, hn⟩ : ∃ n : Nat, (I 65).toInt = (n : Int) := ⟨(I 65).toInt.toNat, by omega⟩
    have s1 := t1_one (x := I 65) (by omega) (by omega)
    have z1 : (I 65 + 1).toNatClampNeg = n + 1 := at_n (by rw [s1]; omega)
    have b2 := bt_n q2
    have b3 := bt_n q3
    have k31 : (31 : Int32).toInt = 31 := by decide
    simp only [if_neg q6, if_pos q7, if_neg q8]
    rw [g_X2_addCell_e]
    simp only [↓ap1_n, va_up_self]
    rw [if_pos q7, at_n hn]
    have ix : ∀ (k : Int32) (m : Nat), k.toInt = (m : Int) → m ≤ 15 → ((100 : Int32) + (16 : Int32) * I 65 + k).toNatClampNeg = 100 + 16 * n + m := fun k m hk hm => by rw [ixk (c := I 65) (k := k) m hk hm (by omega) (by omega), at_n hn]
    rw [ix 0 0 (by decide) (by decide), ix 1 1 (by decide) (by decide), ix 2 2 (by decide) (by decide), ix 3 3 (by decide) (by decide), ix 4 4 (by decide) (by decide), ix 5 5 (by decide) (by decide), ix 14 14 (by decide) (by decide)]
    simp only [up_up]
    generalize eA : upd (upd (upd (upd (upd (upd (upd (upd (si 384) (100 + 16 * n + 0) a0) (100 + 16 * n + 1) a1) (100 + 16 * n + 2) a2) (100 + 16 * n + 3) a3) (100 + 16 * n + 4) a4) (100 + 16 * n + 5) a5) (100 + 16 * n + 14) (-1)) 2 (I 65 + 1) = A
    have oA : ∀ i, i ≠ 2 → (i < 100 + 16 * n ∨ 100 + 16 * n + 5 < i) → i ≠ 100 + 16 * n + 14 → A i = si 384 i := fun i h1 h2 h3 => by rw [← eA, upd_n _ _ h1, upd_n _ _ h3, upd_n _ _ (by omega), upd_n _ _ (by omega), upd_n _ _ (by omega), upd_n _ _ (by omega), upd_n _ _ (by omega), upd_n _ _ (by omega)]
    have A2 : A (100 + 16 * n + 2) = a2 := by rw [← eA, upd_n _ _ (by omega), upd_n _ _ (by omega), upd_n _ _ (by omega), upd_n _ _ (by omega), upd_n _ _ (by omega), upd_s]
    have A3 : A (100 + 16 * n + 3) = a3 := by rw [← eA, upd_n _ _ (by omega), upd_n _ _ (by omega), upd_n _ _ (by omega), upd_n _ _ (by omega), upd_s]
    generalize eR : va_up (va_up (va_up (va_up (va_up (va_up ri 69 _) 70 _) 71 _) 72 _) 73 _) 74 _ = R
    have R71 : R 71 = upd (ri 71) n a2 := by rw [← eR]; rfl
    have R72 : R 72 = upd (ri 72) n a3 := by rw [← eR]; rfl
    have R77 : R 77 = ri 77 := by rw [← eR]; rfl
    have fj := g_X2_joinRing_f (a0 := I 65) (a1 := a0) (I := I) (J := J) (ri := R) (rj := rj) (rq := rq)
    generalize g_X2_joinRing (I 65) a0 I J R rj rq = b at fj ⊢
    obtain ⟨I1, J1, r1, l1, q1⟩ := b
    have j71 : r1 71 = R 71 := fj.2.2.1 71 (by decide)
    have j72 : r1 72 = R 72 := fj.2.2.1 72 (by decide)
    have j77 : r1 77 = R 77 := fj.2.2.1 77 (by decide)
    obtain ⟨⟨x1, x2, x3, x4⟩, xl⟩ := hA
    rw [bnV_mk, bnI_mk]
    refine ⟨⟨?_, ?_⟩, fun c hc => ?_, fun c hc => ?_⟩
    · show ARH (va_up I 65 (I 65 + 1) 320).toNatClampNeg (va_up I 65 (I 65 + 1)) r1 rj (va_up si 384 A 384)
      rw [va_up_self, va_up_ne _ _ (show (320 : Nat) ≠ 65 by decide), z320]
      refine ⟨?_, ?_, fun c hc => ?_, fun f hf => absurd hf (Nat.not_lt_zero _)⟩
      · rw [va_up_ne _ _ (show (237 : Nat) ≠ 65 by decide), oA 16 (by decide) (by omega) (by omega)]
        exact x1
      · rw [oA 16 (by decide) (by omega) (by omega)]
        exact x2
      · rw [j71, j72, R71, R72]
        by_cases e : c = n
        · rw [e, upd_s, upd_s, A2, A3]
          exact ⟨rfl, rfl, by omega, by omega⟩
        · rw [upd_n _ _ e, upd_n _ _ e, oA _ (by omega) (by omega) (by omega), oA _ (by omega) (by omega) (by omega)]
          exact x3 c hc
    · show ARL (va_up I 65 (I 65 + 1)) (va_up si 384 A 384)
      rw [va_up_self]
      exact ARL_cg xl (va_up_ne _ _ (by decide)) (oA 0 (by decide) (by omega) (by omega)) (oA 18 (by decide) (by omega) (by omega))
    · obtain ⟨d1', d2, d3, d4⟩ := hD c hc
      show va_up si 384 A 384 (100 + 16 * c + 12) = (if hb (J 67) c = true then 1 else 0) ∧ r1 77 c = va_up si 384 A 384 (100 + 16 * c + 11) ∧ (0 ≤ (va_up si 384 A 384 (100 + 16 * c + 11)).toInt ∧ (va_up si 384 A 384 (100 + 16 * c + 11)).toInt ≤ (va_up si 384 A 384 0).toInt) ∧ ((va_up I 65 (I 65 + 1) 65).toNatClampNeg ≤ c → hb (J 67) c = false)
      rw [va_up_self, va_up_self, oA _ (by omega) (by omega) (by omega), oA _ (by omega) (by omega) (by omega), oA 0 (by decide) (by omega) (by omega), j77, R77, z1]
      exact ⟨d1', d2, d3, fun y => d4 (by rw [at_n hn]; omega)⟩
    · obtain ⟨t1, t2⟩ := hH c hc
      rw [at_n hn] at t1 t2
      have A14 : A (100 + 16 * n + 14) = -1 := by rw [← eA, upd_n _ _ (by omega), upd_s]
      have j325 : r1 325 = ri 325 := (fj.2.2.1 325 (by decide)).trans (by rw [← eR]; rfl)
      show (c < (va_up I 65 (I 65 + 1) 65).toNatClampNeg → r1 325 c = va_up si 384 A 384 (100 + 16 * c + 14) ∧ (-1 ≤ (va_up si 384 A 384 (100 + 16 * c + 14)).toInt ∧ (va_up si 384 A 384 (100 + 16 * c + 14)).toInt ≤ 39)) ∧ ((va_up I 65 (I 65 + 1) 65).toNatClampNeg ≤ c → r1 325 c = -1)
      rw [va_up_self, va_up_self, z1, j325]
      refine ⟨fun y => ?_, fun y => t2 (by omega)⟩
      by_cases e : c = n
      · have t3 := t2 (by omega)
        rw [e] at t3
        rw [e, A14, t3]
        exact ⟨rfl, by decide, by decide⟩
      · rw [oA _ (by omega) (by omega) (by omega)]
        exact t1 (by omega)
  · have d1 : ¬ (I 65).toInt < (40 : Int32).toInt := fun y => q7 (Int32.lt_iff_toInt_lt.mpr y)
    have q8 : I 65 = 40 := Int32.toInt_inj.mp (by omega)
    simp only [if_neg q6, if_neg q7, if_pos q8]
    exact no _ _
end PK14
/-! ===== pure: Long.bitCount of the JDK; THE COUNCIL, both sides (behind pk14) ===== -/
section PK15
def N6 (a : Int64) : Nat := a.toUInt64.toNat
theorem N6_lt (a : Int64) : N6 a < 18446744073709551616 := a.toUInt64.toNat_lt
theorem n6_add {a b : Int64} (h : N6 a + N6 b < 18446744073709551616) : N6 (a + b) = N6 a + N6 b := by
  have e : (a + b).toUInt64 = a.toUInt64 + b.toUInt64 := rfl
  unfold N6 at h ⊢
  rw [e, UInt64.toNat_add]
  exact Nat.mod_eq_of_lt h
theorem n6_sub {a b : Int64} (h : N6 b ≤ N6 a) : N6 (a - b) = N6 a - N6 b := by
  have e : (a - b).toUInt64 = a.toUInt64 - b.toUInt64 := rfl
  have la := N6_lt a
  unfold N6 at h la ⊢
  rw [e, UInt64.toNat_sub]
  omega
theorem n6_and {a b : Int64} : N6 (a &&& b) = N6 a &&& N6 b := by
  have e : (a &&& b).toUInt64 = a.toUInt64 &&& b.toUInt64 := rfl
  unfold N6
  rw [e, UInt64.toNat_and]
theorem n6_shr (a : Int64) {s : UInt64} (n : Nat) (hs : s.toNat = n) (hn : n < 64) : N6 ((a.toUInt64 >>> s).toInt64) = N6 a / 2 ^ n := by
  have e : ((a.toUInt64 >>> s).toInt64).toUInt64 = a.toUInt64 >>> s := rfl
  unfold N6
  rw [e, UInt64.toNat_shiftRight, hs, Nat.mod_eq_of_lt hn, Nat.shiftRight_eq_div_pow]
theorem and_w (x y : Nat) : x &&& y = (x % 4294967296 &&& y % 4294967296) + 4294967296 * (x / 4294967296 &&& y / 4294967296) := by
  have h1 : (x &&& y) % 2 ^ 32 = x % 2 ^ 32 &&& y % 2 ^ 32 := Nat.and_mod_two_pow
  have h2 : (x &&& y) / 2 ^ 32 = x / 2 ^ 32 &&& y / 2 ^ 32 := Nat.and_div_two_pow
  have k : (2 : Nat) ^ 32 = 4294967296 := by decide
  rw [k] at h1 h2
  rw [← h1, ← h2]
  omega
def q8 (L H : Nat) : Nat := L + 4294967296 * H
theorem q8_and {L H M : Nat} (hL : L < 4294967296) (hM : M < 4294967296) : q8 L H &&& q8 M M = q8 (L &&& M) (H &&& M) := by
  unfold q8
  rw [and_w, show (L + 4294967296 * H) % 4294967296 = L by omega, show (L + 4294967296 * H) / 4294967296 = H by omega, show (M + 4294967296 * M) % 4294967296 = M by omega, show (M + 4294967296 * M) / 4294967296 = M by omega]
theorem q8_m {a b c d e f g h m : Nat} (ha : a < 256) (hb : b < 256) (hc : c < 256) (hd : d < 256) (he : e < 256) (hf : f < 256) (hg : g < 256) (hh : h < 256) (hm : m < 256) : q8 (m4 a b c d) (m4 e f g h) &&& q8 (m4 m m m m) (m4 m m m m) = q8 (m4 (a &&& m) (b &&& m) (c &&& m) (d &&& m)) (m4 (e &&& m) (f &&& m) (g &&& m) (h &&& m)) := by
  rw [q8_and (m4_lt ha hb hc hd) (m4_lt hm hm hm hm), m4_and ha hb hc hd hm, m4_and he hf hg hh hm]
theorem q8_ex (A : Nat) (hA : A < 18446744073709551616) : ∃ a b c d e f g h, a < 256 ∧ b < 256 ∧ c < 256 ∧ d < 256 ∧ e < 256 ∧ f < 256 ∧ g < 256 ∧ h < 256 ∧ A = q8 (m4 a b c d) (m4 e f g h) := by
  obtain ⟨a, b, c, d, ha, hb, hc, hd, e1⟩ := m4_ex (A % 4294967296) (Nat.mod_lt _ (by decide))
  obtain ⟨e, f, g, h, he, hf, hg, hh, e2⟩ := m4_ex (A / 4294967296) (by omega)
  exact ⟨a, b, c, d, e, f, g, h, ha, hb, hc, hd, he, hf, hg, hh, by unfold q8; omega⟩
theorem sq_1 {a b c d e f g h : Nat} (ha : a < 256) (hb : b < 256) (hc : c < 256) (hd : d < 256) (he : e < 256) (hf : f < 256) (hg : g < 256) (hh : h < 256) : q8 (m4 a b c d) (m4 e f g h) / 2 = q8 (m4 (a / 2 + 128 * (b % 2)) (b / 2 + 128 * (c % 2)) (c / 2 + 128 * (d % 2)) (d / 2 + 128 * (e % 2))) (m4 (e / 2 + 128 * (f % 2)) (f / 2 + 128 * (g % 2)) (g / 2 + 128 * (h % 2)) (h / 2 + 128 * 0)) := by unfold q8 m4; omega
theorem sq_2 {a b c d e f g h : Nat} (ha : a < 256) (hb : b < 256) (hc : c < 256) (hd : d < 256) (he : e < 256) (hf : f < 256) (hg : g < 256) (hh : h < 256) : q8 (m4 a b c d) (m4 e f g h) / 4 = q8 (m4 (a / 4 + 64 * (b % 4)) (b / 4 + 64 * (c % 4)) (c / 4 + 64 * (d % 4)) (d / 4 + 64 * (e % 4))) (m4 (e / 4 + 64 * (f % 4)) (f / 4 + 64 * (g % 4)) (g / 4 + 64 * (h % 4)) (h / 4 + 64 * 0)) := by unfold q8 m4; omega
theorem sq_4 {a b c d e f g h : Nat} (ha : a < 256) (hb : b < 256) (hc : c < 256) (hd : d < 256) (he : e < 256) (hf : f < 256) (hg : g < 256) (hh : h < 256) : q8 (m4 a b c d) (m4 e f g h) / 16 = q8 (m4 (a / 16 + 16 * (b % 16)) (b / 16 + 16 * (c % 16)) (c / 16 + 16 * (d % 16)) (d / 16 + 16 * (e % 16))) (m4 (e / 16 + 16 * (f % 16)) (f / 16 + 16 * (g % 16)) (g / 16 + 16 * (h % 16)) (h / 16 + 16 * 0)) := by unfold q8 m4; omega
theorem q8_lt {a b c d e f g h : Nat} (ha : a < 256) (hb : b < 256) (hc : c < 256) (hd : d < 256) (he : e < 256) (hf : f < 256) (hg : g < 256) (hh : h < 256) : q8 (m4 a b c d) (m4 e f g h) < 18446744073709551616 := by unfold q8 m4; omega
theorem bl_v (A0 : Int64) : ∃ a b c d e f g h, a < 256 ∧ b < 256 ∧ c < 256 ∧ d < 256 ∧ e < 256 ∧ f < 256 ∧ g < 256 ∧ h < 256 ∧ N6 A0 = q8 (m4 a b c d) (m4 e f g h) ∧ N3 (g_J13_bitCount_95d88 A0) = p8 a + p8 b + p8 c + p8 d + (p8 e + p8 f + p8 g + p8 h) := by
  obtain ⟨a, b, c, d, e, f, g, h, ha, hb, hc, hd, he, hf, hg, hh, hA⟩ := q8_ex (N6 A0) (N6_lt A0)
  refine ⟨a, b, c, d, e, f, g, h, ha, hb, hc, hd, he, hf, hg, hh, hA, ?_⟩
  obtain ⟨aa1, aa2, aa3, aa4⟩ := y_all a ha
  obtain ⟨bb1, bb2, bb3, bb4⟩ := y_all b hb
  obtain ⟨cc1, cc2, cc3, cc4⟩ := y_all c hc
  obtain ⟨dd1, dd2, dd3, dd4⟩ := y_all d hd
  obtain ⟨ee1, ee2, ee3, ee4⟩ := y_all e he
  obtain ⟨ff1, ff2, ff3, ff4⟩ := y_all f hf
  obtain ⟨gg1, gg2, gg3, gg4⟩ := y_all g hg
  obtain ⟨hh1, hh2, hh3, hh4⟩ := y_all h hh
  have k5 : N6 6148914691236517205 = q8 (m4 85 85 85 85) (m4 85 85 85 85) := by decide +kernel
  have k3 : N6 3689348814741910323 = q8 (m4 51 51 51 51) (m4 51 51 51 51) := by decide +kernel
  have kf : N6 1085102592571150095 = q8 (m4 15 15 15 15) (m4 15 15 15 15) := by decide +kernel
  have k7 : N3 127 = 127 := by decide +kernel
  rw [g_J13_bitCount_95d88_e]
  simp only [↓ap1_n]
  generalize h1 : (A0.toUInt64 >>> ((1 : Int32).toInt64.toUInt64 &&& Int64.toUInt64 63)).toInt64 = x1
  have e1 : N6 x1 = q8 (m4 a b c d) (m4 e f g h) / 2 := by
    rw [← h1, n6_shr A0 1 (by decide +kernel) (by decide), hA]
    try rfl
  generalize h2 : x1 &&& (6148914691236517205 : Int64) = x2
  have e2 : N6 x2 = q8 (m4 (y2 a) (y2 b) (y2 c) (y2 d)) (m4 (y2 e) (y2 f) (y2 g) (y2 h)) := by
    rw [← h2, n6_and, e1, k5, sq_1 ha hb hc hd he hf hg hh, q8_m (by omega) (by omega) (by omega) (by omega) (by omega) (by omega) (by omega) (by omega) (by decide), s2 ha (by omega), s2 hb (by omega), s2 hc (by omega), s2 hd (by omega), s2 he (by omega), s2 hf (by omega), s2 hg (by omega), s2 hh (by omega)]
  generalize h3 : A0 - x2 = x3
  have e3 : N6 x3 = q8 (m4 (y3 a) (y3 b) (y3 c) (y3 d)) (m4 (y3 e) (y3 f) (y3 g) (y3 h)) := by
    rw [← h3, n6_sub (by rw [e2, hA]; unfold q8 m4; omega), e2, hA]
    unfold q8 m4 y3
    omega
  have q3 : y3 a < 256 ∧ y3 b < 256 ∧ y3 c < 256 ∧ y3 d < 256 ∧ y3 e < 256 ∧ y3 f < 256 ∧ y3 g < 256 ∧ y3 h < 256 := by unfold y3; omega
  obtain ⟨za, zb, zc, zd, ze, zf, zg, zh⟩ := q3
  generalize h4 : x3 &&& (3689348814741910323 : Int64) = x4
  have e4 : N6 x4 = q8 (m4 (y3 a &&& 51) (y3 b &&& 51) (y3 c &&& 51) (y3 d &&& 51)) (m4 (y3 e &&& 51) (y3 f &&& 51) (y3 g &&& 51) (y3 h &&& 51)) := by rw [← h4, n6_and, e3, k3, q8_m za zb zc zd ze zf zg zh (by decide)]
  generalize h5 : (x3.toUInt64 >>> ((2 : Int32).toInt64.toUInt64 &&& Int64.toUInt64 63)).toInt64 = x5
  have e5 : N6 x5 = q8 (m4 (y3 a) (y3 b) (y3 c) (y3 d)) (m4 (y3 e) (y3 f) (y3 g) (y3 h)) / 4 := by
    rw [← h5, n6_shr x3 2 (by decide +kernel) (by decide), e3]
    try rfl
  generalize h6 : x5 &&& (3689348814741910323 : Int64) = x6
  have e6 : N6 x6 = q8 (m4 (y3 a / 4 &&& 51) (y3 b / 4 &&& 51) (y3 c / 4 &&& 51) (y3 d / 4 &&& 51)) (m4 (y3 e / 4 &&& 51) (y3 f / 4 &&& 51) (y3 g / 4 &&& 51) (y3 h / 4 &&& 51)) := by
    rw [← h6, n6_and, e5, k3, sq_2 za zb zc zd ze zf zg zh, q8_m (by omega) (by omega) (by omega) (by omega) (by omega) (by omega) (by omega) (by omega) (by decide), s6 za (by omega), s6 zb (by omega), s6 zc (by omega), s6 zd (by omega), s6 ze (by omega), s6 zf (by omega), s6 zg (by omega), s6 zh (by omega)]
  generalize h7 : x4 + x6 = x7
  have e7 : N6 x7 = q8 (m4 (y7 a) (y7 b) (y7 c) (y7 d)) (m4 (y7 e) (y7 f) (y7 g) (y7 h)) := by
    have u : q8 (m4 (y3 a &&& 51) (y3 b &&& 51) (y3 c &&& 51) (y3 d &&& 51)) (m4 (y3 e &&& 51) (y3 f &&& 51) (y3 g &&& 51) (y3 h &&& 51)) + q8 (m4 (y3 a / 4 &&& 51) (y3 b / 4 &&& 51) (y3 c / 4 &&& 51) (y3 d / 4 &&& 51)) (m4 (y3 e / 4 &&& 51) (y3 f / 4 &&& 51) (y3 g / 4 &&& 51) (y3 h / 4 &&& 51)) = q8 (m4 (y7 a) (y7 b) (y7 c) (y7 d)) (m4 (y7 e) (y7 f) (y7 g) (y7 h)) := by unfold q8 m4 y7; omega
    have l := q8_lt (a := y7 a) (b := y7 b) (c := y7 c) (d := y7 d) (e := y7 e) (f := y7 f) (g := y7 g) (h := y7 h) (by omega) (by omega) (by omega) (by omega) (by omega) (by omega) (by omega) (by omega)
    rw [← h7, n6_add (by rw [e4, e6, u]; exact l), e4, e6, u]
  generalize h8 : (x7.toUInt64 >>> ((4 : Int32).toInt64.toUInt64 &&& Int64.toUInt64 63)).toInt64 = x8
  have e8 : N6 x8 = q8 (m4 (y7 a / 16 + 16 * (y7 b % 16)) (y7 b / 16 + 16 * (y7 c % 16)) (y7 c / 16 + 16 * (y7 d % 16)) (y7 d / 16 + 16 * (y7 e % 16))) (m4 (y7 e / 16 + 16 * (y7 f % 16)) (y7 f / 16 + 16 * (y7 g % 16)) (y7 g / 16 + 16 * (y7 h % 16)) (y7 h / 16 + 16 * 0)) := by rw [← h8, n6_shr x7 4 (by decide +kernel) (by decide), e7]; exact sq_4 (by omega) (by omega) (by omega) (by omega) (by omega) (by omega) (by omega) (by omega)
  have r : ∀ u, u < 256 → y7 u % 16 ≤ 4 ∧ y7 u / 16 ≤ 4 := by decide +kernel
  have ra := r a ha
  have rb := r b hb
  have rc := r c hc
  have rd := r d hd
  have re := r e he
  have rf := r f hf
  have rg := r g hg
  have rh := r h hh
  generalize h9 : x7 + x8 = x9
  have e9 : N6 x9 = q8 (m4 (y7 a + (y7 a / 16 + 16 * (y7 b % 16))) (y7 b + (y7 b / 16 + 16 * (y7 c % 16))) (y7 c + (y7 c / 16 + 16 * (y7 d % 16))) (y7 d + (y7 d / 16 + 16 * (y7 e % 16)))) (m4 (y7 e + (y7 e / 16 + 16 * (y7 f % 16))) (y7 f + (y7 f / 16 + 16 * (y7 g % 16))) (y7 g + (y7 g / 16 + 16 * (y7 h % 16))) (y7 h + (y7 h / 16 + 16 * 0))) := by
    have u : q8 (m4 (y7 a) (y7 b) (y7 c) (y7 d)) (m4 (y7 e) (y7 f) (y7 g) (y7 h)) + q8 (m4 (y7 a / 16 + 16 * (y7 b % 16)) (y7 b / 16 + 16 * (y7 c % 16)) (y7 c / 16 + 16 * (y7 d % 16)) (y7 d / 16 + 16 * (y7 e % 16))) (m4 (y7 e / 16 + 16 * (y7 f % 16)) (y7 f / 16 + 16 * (y7 g % 16)) (y7 g / 16 + 16 * (y7 h % 16)) (y7 h / 16 + 16 * 0)) = q8 (m4 (y7 a + (y7 a / 16 + 16 * (y7 b % 16))) (y7 b + (y7 b / 16 + 16 * (y7 c % 16))) (y7 c + (y7 c / 16 + 16 * (y7 d % 16))) (y7 d + (y7 d / 16 + 16 * (y7 e % 16)))) (m4 (y7 e + (y7 e / 16 + 16 * (y7 f % 16))) (y7 f + (y7 f / 16 + 16 * (y7 g % 16))) (y7 g + (y7 g / 16 + 16 * (y7 h % 16))) (y7 h + (y7 h / 16 + 16 * 0))) := by unfold q8 m4; omega
    have l := q8_lt (a := y7 a + (y7 a / 16 + 16 * (y7 b % 16))) (b := y7 b + (y7 b / 16 + 16 * (y7 c % 16))) (c := y7 c + (y7 c / 16 + 16 * (y7 d % 16))) (d := y7 d + (y7 d / 16 + 16 * (y7 e % 16))) (e := y7 e + (y7 e / 16 + 16 * (y7 f % 16))) (f := y7 f + (y7 f / 16 + 16 * (y7 g % 16))) (g := y7 g + (y7 g / 16 + 16 * (y7 h % 16))) (h := y7 h + (y7 h / 16 + 16 * 0)) (by omega) (by omega) (by omega) (by omega) (by omega) (by omega) (by omega) (by omega)
    rw [← h9, n6_add (by rw [e7, e8, u]; exact l), e7, e8, u]
  generalize h10 : x9 &&& (1085102592571150095 : Int64) = x10
  have e10 : N6 x10 = q8 (m4 (p8 a) (p8 b) (p8 c) (p8 d)) (m4 (p8 e) (p8 f) (p8 g) (p8 h)) := by
    rw [← h10, n6_and, e9, kf, q8_m (by omega) (by omega) (by omega) (by omega) (by omega) (by omega) (by omega) (by omega) (by decide), c9 _ (by omega), c9 _ (by omega), c9 _ (by omega), c9 _ (by omega), c9 _ (by omega), c9 _ (by omega), c9 _ (by omega), c9 _ (by omega), ← aa4, ← bb4, ← cc4, ← dd4, ← ee4, ← ff4, ← gg4, ← hh4]
    unfold y10
    rw [show (y7 a + (y7 a / 16 + 16 * (y7 b % 16))) % 16 = y7 a % 16 + y7 a / 16 by omega, show (y7 b + (y7 b / 16 + 16 * (y7 c % 16))) % 16 = y7 b % 16 + y7 b / 16 by omega, show (y7 c + (y7 c / 16 + 16 * (y7 d % 16))) % 16 = y7 c % 16 + y7 c / 16 by omega, show (y7 d + (y7 d / 16 + 16 * (y7 e % 16))) % 16 = y7 d % 16 + y7 d / 16 by omega, show (y7 e + (y7 e / 16 + 16 * (y7 f % 16))) % 16 = y7 e % 16 + y7 e / 16 by omega, show (y7 f + (y7 f / 16 + 16 * (y7 g % 16))) % 16 = y7 f % 16 + y7 f / 16 by omega, show (y7 g + (y7 g / 16 + 16 * (y7 h % 16))) % 16 = y7 g % 16 + y7 g / 16 by omega, show (y7 h + (y7 h / 16 + 16 * 0)) % 16 = y7 h % 16 + y7 h / 16 by omega]
  have pa : p8 a ≤ 8 := by rw [← aa4]; exact aa3
  have pb : p8 b ≤ 8 := by rw [← bb4]; exact bb3
  have pc : p8 c ≤ 8 := by rw [← cc4]; exact cc3
  have pd : p8 d ≤ 8 := by rw [← dd4]; exact dd3
  have pe : p8 e ≤ 8 := by rw [← ee4]; exact ee3
  have pf : p8 f ≤ 8 := by rw [← ff4]; exact ff3
  have pg : p8 g ≤ 8 := by rw [← gg4]; exact gg3
  have ph : p8 h ≤ 8 := by rw [← hh4]; exact hh3
  generalize h11 : (x10.toUInt64 >>> ((8 : Int32).toInt64.toUInt64 &&& Int64.toUInt64 63)).toInt64 = x11
  have e11 : N6 x11 = q8 (m4 (p8 b) (p8 c) (p8 d) (p8 e)) (m4 (p8 f) (p8 g) (p8 h) (0)) := by
    rw [← h11, n6_shr x10 8 (by decide +kernel) (by decide), e10]
    unfold q8 m4
    omega
  generalize h12 : x10 + x11 = x12
  have e12 : N6 x12 = q8 (m4 (p8 a + p8 b) (p8 b + p8 c) (p8 c + p8 d) (p8 d + p8 e)) (m4 (p8 e + p8 f) (p8 f + p8 g) (p8 g + p8 h) (p8 h)) := by
    rw [← h12, n6_add (by rw [e10, e11]; unfold q8 m4; omega), e10, e11]
    unfold q8 m4
    omega
  generalize h13 : (x12.toUInt64 >>> ((16 : Int32).toInt64.toUInt64 &&& Int64.toUInt64 63)).toInt64 = x13
  have e13 : N6 x13 = q8 (m4 (p8 c + p8 d) (p8 d + p8 e) (p8 e + p8 f) (p8 f + p8 g)) (m4 (p8 g + p8 h) (p8 h) (0) (0)) := by
    rw [← h13, n6_shr x12 16 (by decide +kernel) (by decide), e12]
    unfold q8 m4
    omega
  generalize h14 : x12 + x13 = x14
  have e14 : N6 x14 = q8 (m4 (p8 a + p8 b + p8 c + p8 d) (p8 b + p8 c + p8 d + p8 e) (p8 c + p8 d + p8 e + p8 f) (p8 d + p8 e + p8 f + p8 g)) (m4 (p8 e + p8 f + p8 g + p8 h) (p8 f + p8 g + p8 h) (p8 g + p8 h) (p8 h)) := by
    rw [← h14, n6_add (by rw [e12, e13]; unfold q8 m4; omega), e12, e13]
    unfold q8 m4
    omega
  generalize h15 : (x14.toUInt64 >>> ((32 : Int32).toInt64.toUInt64 &&& Int64.toUInt64 63)).toInt64 = x15
  have e15 : N6 x15 = q8 (m4 (p8 e + p8 f + p8 g + p8 h) (p8 f + p8 g + p8 h) (p8 g + p8 h) (p8 h)) (m4 (0) (0) (0) (0)) := by
    rw [← h15, n6_shr x14 32 (by decide +kernel) (by decide), e14]
    unfold q8 m4
    omega
  generalize h16 : x14 + x15 = x16
  have e16 : N6 x16 = q8 (m4 (p8 a + p8 b + p8 c + p8 d + p8 e + p8 f + p8 g + p8 h) (p8 b + p8 c + p8 d + p8 e + p8 f + p8 g + p8 h) (p8 c + p8 d + p8 e + p8 f + p8 g + p8 h) (p8 d + p8 e + p8 f + p8 g + p8 h)) (m4 (p8 e + p8 f + p8 g + p8 h) (p8 f + p8 g + p8 h) (p8 g + p8 h) (p8 h)) := by
    rw [← h16, n6_add (by rw [e14, e15]; unfold q8 m4; omega), e14, e15]
    unfold q8 m4
    omega
  have t : N3 x16.toInt32 = N6 x16 % 4294967296 := by
    have q : x16.toInt32.toBitVec.toNat = x16.toBitVec.toNat % 2 ^ 32 := by
      rw [show x16.toInt32.toBitVec = x16.toBitVec.signExtend 32 from rfl]
      first | rw [BitVec.signExtend_eq_setWidth_of_le _ (by decide), BitVec.toNat_setWidth] | rw [BitVec.signExtend_eq_setWidth_of_lt _ (by decide), BitVec.toNat_setWidth] | simp [BitVec.toNat_signExtend, BitVec.toNat_setWidth]
    exact q
  have z : N6 x16 % 4294967296 % 128 = p8 a + p8 b + p8 c + p8 d + p8 e + p8 f + p8 g + p8 h := by
    rw [e16]
    unfold q8 m4
    omega
  have a7 : ∀ x : Nat, x &&& 127 = x % 128 := fun x => Nat.and_two_pow_sub_one_eq_mod x 7
  rw [n_and, t, k7, a7, z]
  omega
theorem pl_v (w : Int64) : (g_J13_bitCount_95d88 w).toInt = (cnF (hb w) 0 64 : Int) := by
  obtain ⟨a, b, c, d, e, f, g, h, ha, hb', hc, hd, he, hf, hg, hh, e1, e2⟩ := bl_v w
  have t : ∀ i, i < 64 → hb w (0 + i) = (N6 w).testBit i := fun i _ => by
    rw [Nat.zero_add]
    rfl
  have e3 := bs_v 64 (N6 w) 0 (hb w) t
  rw [e3, e1]
  have f0 := bs_8 (q8 (m4 a b c d) (m4 e f g h)) 56
  have g0 : (q8 (m4 a b c d) (m4 e f g h)) % 256 = a := by unfold q8 m4; omega
  have f1 := bs_8 (q8 (m4 a b c d) (m4 e f g h) / 256) 48
  have g1 : (q8 (m4 a b c d) (m4 e f g h) / 256) % 256 = b := by unfold q8 m4; omega
  have f2 := bs_8 (q8 (m4 a b c d) (m4 e f g h) / 256 / 256) 40
  have g2 : (q8 (m4 a b c d) (m4 e f g h) / 256 / 256) % 256 = c := by unfold q8 m4; omega
  have f3 := bs_8 (q8 (m4 a b c d) (m4 e f g h) / 256 / 256 / 256) 32
  have g3 : (q8 (m4 a b c d) (m4 e f g h) / 256 / 256 / 256) % 256 = d := by unfold q8 m4; omega
  have f4 := bs_8 (q8 (m4 a b c d) (m4 e f g h) / 256 / 256 / 256 / 256) 24
  have g4 : (q8 (m4 a b c d) (m4 e f g h) / 256 / 256 / 256 / 256) % 256 = e := by unfold q8 m4; omega
  have f5 := bs_8 (q8 (m4 a b c d) (m4 e f g h) / 256 / 256 / 256 / 256 / 256) 16
  have g5 : (q8 (m4 a b c d) (m4 e f g h) / 256 / 256 / 256 / 256 / 256) % 256 = f := by unfold q8 m4; omega
  have f6 := bs_8 (q8 (m4 a b c d) (m4 e f g h) / 256 / 256 / 256 / 256 / 256 / 256) 8
  have g6 : (q8 (m4 a b c d) (m4 e f g h) / 256 / 256 / 256 / 256 / 256 / 256) % 256 = g := by unfold q8 m4; omega
  have f7 := bs_8 (q8 (m4 a b c d) (m4 e f g h) / 256 / 256 / 256 / 256 / 256 / 256 / 256) 0
  have g7 : (q8 (m4 a b c d) (m4 e f g h) / 256 / 256 / 256 / 256 / 256 / 256 / 256) % 256 = h := by unfold q8 m4; omega
  rw [g0] at f0
  rw [g1] at f1
  rw [g2] at f2
  rw [g3] at f3
  rw [g4] at f4
  rw [g5] at f5
  rw [g6] at f6
  rw [g7] at f7
  have z : bs (q8 (m4 a b c d) (m4 e f g h) / 256 / 256 / 256 / 256 / 256 / 256 / 256 / 256) 0 = 0 := rfl
  have l : ∀ u, u < 256 → p8 u ≤ 8 := by decide +kernel
  have la := l a ha
  have lb := l b hb'
  have lc := l c hc
  have ld := l d hd
  have le := l e he
  have lf := l f hf
  have lg := l g hg
  have lh := l h hh
  have k : (g_J13_bitCount_95d88 w).toInt = (N3 (g_J13_bitCount_95d88 w) : Int) := by
    have h : (g_J13_bitCount_95d88 w).toBitVec.toNat < 2147483648 := by
      show N3 (g_J13_bitCount_95d88 w) < 2147483648
      rw [e2]
      omega
    show (g_J13_bitCount_95d88 w).toBitVec.toInt = _
    rw [BitVec.toInt_eq_toNat_of_lt (by omega)]
    rfl
  rw [k, e2, f0, f1, f2, f3, f4, f5, f6, f7, z]
  omega
end PK15
/-! ===== pure: what a copy leaves of a country besides SEAS and LAND; AREA asked (behind pk14) ===== -/
section PK17
variable {nI : Nat → Int32} {nJ : Nat → Int64} {nR : Nat → Nat → Int32} {nL : Nat → Nat → Int64} {nQ : Nat → Nat → Option Nat}
variable {I : Nat → Int32} {J : Nat → Int64} {ri : Nat → Nat → Int32} {rj : Nat → Nat → Int64} {rq : Nat → Nat → Option Nat}
variable {U : Nat → Int32} {V : Nat → Int64} {si : Nat → Nat → Int32} {sj : Nat → Nat → Int64} {sq : Nat → Nat → Option Nat}
/-- how many of a row count -/
def lnw (t : Nat) : Nat := if t = 11 then 5 else 40
theorem cpyl_v {f g : Nat → Int64} {n j : Nat} (h : j < n) : va_cpy f g 0 0 n j = f j := by
  unfold va_cpy
  rw [if_pos ⟨Nat.zero_le _, by omega⟩, show 0 + (j - 0) = j from by omega]
theorem cp7w : ∃ (I1 : Nat → Int32) (r1 : Nat → Nat → Int32), g_X7_copyFrom nI nR I J ri rj rq = (I1, J, r1, rj, rq) ∧ (∀ f, f ∈ [237, 238] → I1 f = nI f) ∧ (∀ f, f ∉ [224, 234, 235, 236, 237, 238] → I1 f = I f) ∧ ∀ t, t ∉ [225, 226, 227, 228, 229, 230, 231, 232, 233] → r1 t = ri t := by
  rw [g_X7_copyFrom_e]
  simp only [↓ap1_n]
  refine ⟨_, _, rfl, fun f hf => ?_, fun f hf => ?_, fun t ht => ?_⟩
  · simp only [List.mem_cons, List.not_mem_nil, or_false] at hf
    rcases hf with e | e <;> subst e <;> simp [va_up]
  · simp only [List.mem_cons, List.not_mem_nil, or_false, not_or] at hf
    simp [va_up, hf]
  · simp only [List.mem_cons, List.not_mem_nil, or_false, not_or] at ht
    simp [va_up, ht]
theorem cp2w : ∃ (I1 : Nat → Int32) (J1 : Nat → Int64) (r1 : Nat → Nat → Int32) (l1 : Nat → Nat → Int64), g_X2_copyFrom nI nJ nR nL I J ri rj rq = (I1, J1, r1, l1, rq) ∧ I1 65 = nI 65 ∧ (∀ f, f ∉ [64, 65, 66] → I1 f = I f) ∧ J1 67 = nJ 67 ∧ (∀ t, t ∈ [71, 72, 77] → ∀ j, j < 40 → r1 t j = nR t j) ∧ (∀ t, t ∉ [69, 70, 71, 72, 73, 74, 75, 76, 77, 79, 80, 288, 289, 290] → r1 t = ri t) ∧ ∀ j, j < 600 → l1 68 j = nL 68 j := by
  have z0 : (0 : Int32).toNatClampNeg = 0 := by decide
  have z6 : (600 : Int32).toNatClampNeg = 600 := by decide
  rw [g_X2_copyFrom_e]
  simp only [↓ap1_n]
  rw [g_X9_copyFrom_e]
  simp only [↓ap1_n]
  rw [bnV_mk]
  refine ⟨_, _, _, _, rfl, ?_, fun f hf => ?_, va_up_self _ _ _, fun t ht j hj => ?_, fun t ht => ?_, fun j hj => ?_⟩
  · simp [va_up]
  · simp only [List.mem_cons, List.not_mem_nil, or_false, not_or] at hf
    simp [va_up, hf]
  · simp only [List.mem_cons, List.not_mem_nil, or_false] at ht
    rcases ht with e | e | e <;> subst e <;> simp [va_up, cpy_v hj]
  · simp only [List.mem_cons, List.not_mem_nil, or_false, not_or] at ht
    simp [va_up, ht]
  · rw [va_up_self, z0, z6]
    exact cpyl_v hj
theorem cp0w : ∃ (I1 : Nat → Int32) (r1 : Nat → Nat → Int32), g_X0_copyFrom nI nR I J ri rj rq = (I1, J, r1, rj, rq) ∧ (∀ f, f ∈ [0, 10] → I1 f = nI f) ∧ (∀ f, f ∉ [0, 10] → I1 f = I f) ∧ (∀ t, t ∈ [1, 2, 3, 4, 5, 9] → ∀ j, j < 40 → r1 t j = nR t j) ∧ (∀ j, j < 5 → r1 11 j = nR 11 j) ∧ ∀ t, t ∉ [1, 2, 3, 4, 5, 6, 7, 8, 9, 11] → r1 t = ri t := by
  rw [g_X0_copyFrom_e]
  simp only [↓ap1_n]
  refine ⟨_, _, rfl, fun f hf => ?_, fun f hf => ?_, fun t ht j hj => ?_, fun j hj => ?_, fun t ht => ?_⟩
  · simp only [List.mem_cons, List.not_mem_nil, or_false] at hf
    rcases hf with e | e <;> subst e <;> simp [va_up]
  · simp only [List.mem_cons, List.not_mem_nil, or_false, not_or] at hf
    simp [va_up, hf]
  · simp only [List.mem_cons, List.not_mem_nil, or_false] at ht
    rcases ht with e | e | e | e | e | e <;> subst e <;> simp [va_up, cpy_v hj]
  · simp [va_up, cpy_v hj]
  · simp only [List.mem_cons, List.not_mem_nil, or_false, not_or] at ht
    simp [va_up, ht]
/-- what a copy leaves -/
def QW (nI : Nat → Int32) (nJ : Nat → Int64) (nR : Nat → Nat → Int32) (nL : Nat → Nat → Int64) (b : vM) : Prop := (∀ f, f ∈ [65, 320, 237, 238, 321, 322, 323, 324, 0, 10] → b.1 f = nI f) ∧ b.2.1 67 = nJ 67 ∧ (∀ t, t ∈ [1, 2, 3, 4, 5, 9, 11, 71, 72, 77, 325] → ∀ j, j < lnw t → b.2.2.1 t j = nR t j) ∧ ∀ j, j < 600 → b.2.2.2.1 68 j = nL 68 j
theorem copyFrom_w : QW nI nJ nR nL (g_X10_copyFrom nI nJ nR nL nQ I J ri rj rq) := by
  rw [g_X10_copyFrom_e]
  simp only [↓ap1_n]
  generalize hI0 : va_up (va_up (va_up (va_up (va_up I 320 (nI 320)) 321 (nI 321)) 322 (nI 322)) 323 (nI 323)) 324 (nI 324) = I0
  generalize hr0 : va_up ri 325 (va_cpy (nR 325) (ri 325) 0 0 40) = r0
  have h32 : ∀ f, f ∈ [320, 321, 322, 323, 324] → I0 f = nI f := fun f hf => by
    rw [← hI0]
    simp only [List.mem_cons, List.not_mem_nil, or_false] at hf
    rcases hf with e | e | e | e | e <;> subst e <;> simp [va_up]
  have h325 : ∀ j, j < 40 → r0 325 j = nR 325 j := fun j hj => by
    rw [← hr0, va_up_self]
    exact cpy_v hj
  obtain ⟨I7, r7, e7, a7, b7, f7⟩ := cp7w (nI := nI) (nR := nR) (I := I0) (J := J) (ri := r0) (rj := rj) (rq := rq)
  rw [e7, bnV_mk]
  obtain ⟨I2, J2, r2, l2, e2, a2, b2, c2, d2, f2, g2⟩ := cp2w (nI := nI) (nJ := nJ) (nR := nR) (nL := nL) (I := I7) (J := J) (ri := r7) (rj := rj) (rq := rq)
  rw [e2, bnV_mk]
  obtain ⟨Ia, ra, ea, aa, ba, ca, da, fa⟩ := cp0w (nI := nI) (nR := nR) (I := I2) (J := J2) (ri := r2) (rj := l2) (rq := rq)
  rw [ea, bnV_mk]
  refine bV_of g_X3_copyFrom_f (fun Ib _ rb _ _ h3 => ?_)
  refine bV_of g_X1_copyFrom_f (fun Ic _ rc lc _ h4 => ?_)
  have DI : ∀ f, f ∈ [65, 320, 237, 238, 321, 322, 323, 324, 0, 10] → f ∉ w_X3_copyFrom.1 ∧ f ∉ w_X1_copyFrom.1 := by decide
  have DR : ∀ t, t ∈ [1, 2, 3, 4, 5, 9, 11, 71, 72, 77, 325] → t ∉ w_X3_copyFrom.2.2.1 ∧ t ∉ w_X1_copyFrom.2.2.1 := by decide
  have gI : ∀ f, f ∈ [65, 320, 237, 238, 321, 322, 323, 324, 0, 10] → Ic f = Ia f := fun f hf => by
    have x2 : Ib f = Ia f := h3.1 f (DI f hf).1
    have x3 : Ic f = Ib f := h4.1 f (DI f hf).2
    rw [x3, x2]
  have gR : ∀ t, t ∈ [1, 2, 3, 4, 5, 9, 11, 71, 72, 77, 325] → rc t = ra t := fun t ht => by
    have x2 : rb t = ra t := h3.2.2.1 t (DR t ht).1
    have x3 : rc t = rb t := h4.2.2.1 t (DR t ht).2
    rw [x3, x2]
  have gL : lc 68 = l2 68 := h4.2.2.2.1 68 (by decide)
  refine ⟨fun f hf => ?_, c2, fun t ht j hj => ?_, fun j hj => ?_⟩
  · show Ic f = nI f
    rw [gI f hf]
    simp only [List.mem_cons, List.not_mem_nil, or_false] at hf
    rcases hf with e | e | e | e | e | e | e | e | e | e <;> subst e
    · rw [ba 65 (by decide)]; exact a2
    · rw [ba 320 (by decide), b2 320 (by decide), b7 320 (by decide)]; exact h32 320 (by decide)
    · rw [ba 237 (by decide), b2 237 (by decide)]; exact a7 237 (by decide)
    · rw [ba 238 (by decide), b2 238 (by decide)]; exact a7 238 (by decide)
    · rw [ba 321 (by decide), b2 321 (by decide), b7 321 (by decide)]; exact h32 321 (by decide)
    · rw [ba 322 (by decide), b2 322 (by decide), b7 322 (by decide)]; exact h32 322 (by decide)
    · rw [ba 323 (by decide), b2 323 (by decide), b7 323 (by decide)]; exact h32 323 (by decide)
    · rw [ba 324 (by decide), b2 324 (by decide), b7 324 (by decide)]; exact h32 324 (by decide)
    · exact aa 0 (by decide)
    · exact aa 10 (by decide)
  · show rc t j = nR t j
    rw [gR t ht]
    have l40 : ∀ k, k ≠ 11 → j < lnw k → j < 40 := fun k hk h => by
      unfold lnw at h
      rw [if_neg hk] at h
      exact h
    simp only [List.mem_cons, List.not_mem_nil, or_false] at ht
    rcases ht with e | e | e | e | e | e | e | e | e | e | e <;> subst e
    · exact ca 1 (by decide) j (l40 1 (by decide) hj)
    · exact ca 2 (by decide) j (l40 2 (by decide) hj)
    · exact ca 3 (by decide) j (l40 3 (by decide) hj)
    · exact ca 4 (by decide) j (l40 4 (by decide) hj)
    · exact ca 5 (by decide) j (l40 5 (by decide) hj)
    · exact ca 9 (by decide) j (l40 9 (by decide) hj)
    · exact da j hj
    · rw [fa 71 (by decide)]; exact d2 71 (by decide) j (l40 71 (by decide) hj)
    · rw [fa 72 (by decide)]; exact d2 72 (by decide) j (l40 72 (by decide) hj)
    · rw [fa 77 (by decide)]; exact d2 77 (by decide) j (l40 77 (by decide) hj)
    · rw [fa 325 (by decide), f2 325 (by decide), f7 325 (by decide)]; exact h325 j (l40 325 (by decide) hj)
  · show lc 68 j = nL 68 j
    rw [gL]
    exact g2 j hj
theorem image_w {r : Int32} {I1 : Nat → Int32} {J1 : Nat → Int64} {r1 : Nat → Nat → Int32} {l1 : Nat → Nat → Int64} {q1 : Nat → Nat → Option Nat} (e : g_X11_image nI nJ nR nL nQ I J ri rj rq = (r, I1, J1, r1, l1, q1)) : QW nI nJ nR nL (I1, J1, r1, l1, q1) := by
  have h : QW nI nJ nR nL (g_X10_copyFrom nI nJ nR nL nQ I J ri rj rq) := copyFrom_w
  rw [g_X11_image_e] at e
  generalize g_X10_copyFrom nI nJ nR nL nQ I J ri rj rq = p at h e
  obtain ⟨a, b, c, d, f⟩ := p
  have e2 : ((nI 320, a, b, c, d, f) : Int32 × vM) = (r, I1, J1, r1, l1, q1) := e
  exact (Prod.mk.inj e2).2 ▸ h
theorem back_w {r : Int32} {I1 : Nat → Int32} {J1 : Nat → Int64} {r1 : Nat → Nat → Int32} {l1 : Nat → Nat → Int64} {q1 : Nat → Nat → Option Nat} (e : g_X11_back nI nJ nR nL nQ I J ri rj rq = (r, I1, J1, r1, l1, q1)) : QW nI nJ nR nL (I1, J1, r1, l1, q1) := by
  have h : QW nI nJ nR nL (g_X10_copyFrom nI nJ nR nL nQ I J ri rj rq) := copyFrom_w
  rw [g_X11_back_e] at e
  generalize g_X10_copyFrom nI nJ nR nL nQ I J ri rj rq = p at h e
  obtain ⟨a, b, c, d, f⟩ := p
  have e2 : ((a 320, a, b, c, d, f) : Int32 × vM) = (r, I1, J1, r1, l1, q1) := e
  exact (Prod.mk.inj e2).2 ▸ h
/-! ===== a relation that hangs on some fields, rows and cells alone ===== -/
def BND (I : Nat → Int32) : Prop := (I 320).toNatClampNeg ≤ 600 ∧ (I 65).toNatClampNeg ≤ 40
def DEP (fs ts zs : List Nat) (P : (Nat → Int32) → (Nat → Int64) → (Nat → Nat → Int32) → (Nat → Nat → Int64) → (Nat → Int32) → Prop) : Prop := ∀ (I : Nat → Int32) (J : Nat → Int64) (ri : Nat → Nat → Int32) (rj : Nat → Nat → Int64) (A I1 : Nat → Int32) (J1 : Nat → Int64) (r1 : Nat → Nat → Int32) (l1 : Nat → Nat → Int64) (A1 : Nat → Int32), BND I → P I J ri rj A → (∀ f, f ∈ fs → I1 f = I f) → J1 67 = J 67 → (∀ t, t ∈ ts → ∀ j, j < lnw t → r1 t j = ri t j) → (∀ j, j < 600 → l1 68 j = rj 68 j) → (∀ j, zn j ∈ zs → A1 j = A j) → P I1 J1 r1 l1 A1
theorem lnw_40 {t j : Nat} (h : t ≠ 11) (hj : j < 40) : j < lnw t := by
  unfold lnw
  rw [if_neg h]
  exact hj
theorem zn_80 {l : Nat} (h : l < 5) : zn (80 + l) = 200 := zn_LOT1 ⟨by omega, by omega⟩
theorem zn_rk {i : Nat} (h1 : 2520 ≤ i) (h2 : i < 3720) : zn i ∈ [800, 801] := by
  have e : zn i = 800 + (i - 2520) % 2 := by
    unfold zn
    rw [if_neg (by omega), if_neg (by omega), if_neg (by omega), if_neg (by omega), if_neg (by omega), if_neg (by omega), if_neg (by omega), if_neg (by omega), if_neg (by omega), if_neg (by omega), if_pos (by omega)]
  rcases (show (i - 2520) % 2 = 0 ∨ (i - 2520) % 2 = 1 by omega) with q | q <;> rw [e, q] <;> decide
theorem dAR : DEP [65, 320, 237, 324] [71, 72] [0, 16, 18, 302, 303, 800, 801] (fun I _ ri rj A => ARH (I 320).toNatClampNeg I ri rj A ∧ ARL I A) := fun I J ri rj A I1 J1 r1 l1 A1 hb h hf _ ht hl hz => by
  refine ⟨?_, ARL_cg h.2 (hf 324 (by decide)) (hz 0 (by decide)) (hz 18 (by decide))⟩
  rw [hf 320 (by decide)]
  refine ARH_cg h.1 (hf 237 (by decide)) (hf 65 (by decide)) (fun c hc => ⟨ht 71 (by decide) c (lnw_40 (by decide) hc), ht 72 (by decide) c (lnw_40 (by decide) hc)⟩) (fun f hf6 c _ => by rw [hl f hf6]) hb.1 hb.2 (hz 16 (by decide)) (fun c k hc hk => hz _ ?_) (fun i h1 h2 => hz i ?_)
  · rw [zn_c hc ((by decide : ∀ k, k ∈ [2, 3] → k < 16) k hk)]
    exact (by decide : ∀ k, k ∈ [2, 3] → 300 + k ∈ [0, 16, 18, 302, 303, 800, 801]) k hk
  · exact (by decide : ∀ z, z ∈ [800, 801] → z ∈ [0, 16, 18, 302, 303, 800, 801]) _ (zn_rk h1 h2)
theorem dFU : DEP [238, 321, 323] [] [8, 12, 17] (fun I _ _ _ A => FUR I A) := fun I J ri rj A I1 J1 r1 l1 A1 _ h hf _ _ _ hz => FUR_cg h hf (fun i hi => hz i ((by decide : ∀ i, i ∈ [8, 12, 17] → zn i ∈ [8, 12, 17]) i hi))
theorem dFK : DEP [0] [1, 2, 3, 4, 5, 9] [5, 400, 401, 402, 403, 404, 408] (fun I _ ri _ A => FLK I ri A) := fun I J ri rj A I1 J1 r1 l1 A1 _ h hf _ ht _ hz => FLK_cg h (hf 0 (by decide)) (fun t h1 p hp => ht t h1 p (lnw_40 ((by decide : ∀ t, t ∈ [1, 2, 3, 4, 5, 9] → t ≠ 11) t h1) hp)) (hz 5 (by decide)) (fun p k hp hk => hz _ (by
  rw [zn_PERSON (i := 740 + 12 * p + k) (c := p) (k := k) rfl hp ((by decide : ∀ k, k ∈ [0, 1, 2, 3, 4, 8] → k < 12) k hk)]
  exact (by decide : ∀ k, k ∈ [0, 1, 2, 3, 4, 8] → 400 + k ∈ [5, 400, 401, 402, 403, 404, 408]) k hk))
theorem dLT : DEP [10] [11] [4, 200] (fun I _ ri _ A => LTS I ri A) := fun I J ri rj A I1 J1 r1 l1 A1 _ h hf _ ht _ hz => LTS_cg h (hf 10 (by decide)) (fun l hl => ht 11 (by decide) l (by unfold lnw; rw [if_pos rfl]; exact hl)) (hz 4 (by decide)) (fun l hl => hz _ (by rw [zn_80 hl]; decide))
theorem dHL : DEP [65] [325] [314] (fun I _ ri _ A => HLD I ri A) := fun I J ri rj A I1 J1 r1 l1 A1 _ h hf _ ht _ hz => HLD_cg h (hf 65 (by decide)) (fun c hc => ht 325 (by decide) c (lnw_40 (by decide) hc)) (fun c hc => hz _ (by rw [zn_c hc (by decide)]; decide))
theorem dDR : DEP [65] [77] [0, 311, 312] (fun I J ri _ A => DRU I J ri A) := fun I J ri rj A I1 J1 r1 l1 A1 _ h hf hJ ht _ hz => DRU_cg h (hf 65 (by decide)) (fun c _ => by rw [hJ]) (fun c hc => ht 77 (by decide) c (lnw_40 (by decide) hc)) (hz 0 (by decide)) (fun c k hc hk => hz _ (by
  rw [zn_c hc ((by decide : ∀ k, k ∈ [11, 12] → k < 16) k hk)]
  exact (by decide : ∀ k, k ∈ [11, 12] → 300 + k ∈ [0, 311, 312]) k hk))
theorem dBT : DEP [322] [] [11] (fun I _ _ _ A => I 322 = A 11) := fun I J ri rj A I1 J1 r1 l1 A1 _ h hf _ _ _ hz => by
  show I1 322 = A1 11
  rw [hf 322 (by decide), hz 11 (by decide)]
  exact h
abbrev wfl : List Nat := [65, 320, 237, 238, 321, 322, 323, 324, 0, 10]
abbrev wtl : List Nat := [1, 2, 3, 4, 5, 9, 11, 71, 72, 77, 325]
abbrev wzl : List Nat := [0, 4, 5, 8, 11, 12, 16, 17, 18, 200, 302, 303, 311, 312, 314, 400, 401, 402, 403, 404, 408, 800, 801]
theorem dWR : DEP wfl wtl wzl WRA := fun I J ri rj A I1 J1 r1 l1 A1 hb h hf hJ ht hl hz => by
  obtain ⟨w1, w2, ⟨w3, w4, w5⟩, w6, w7⟩ := h
  refine ⟨dAR I J ri rj A I1 J1 r1 l1 A1 hb w1 (fun f x => hf f ?_) hJ (fun t x => ht t ?_) hl (fun j x => hz j ?_), dFU I J ri rj A I1 J1 r1 l1 A1 hb w2 (fun f x => hf f ?_) hJ (fun t x => ht t ?_) hl (fun j x => hz j ?_), ⟨dFK I J ri rj A I1 J1 r1 l1 A1 hb w3 (fun f x => hf f ?_) hJ (fun t x => ht t ?_) hl (fun j x => hz j ?_), dLT I J ri rj A I1 J1 r1 l1 A1 hb w4 (fun f x => hf f ?_) hJ (fun t x => ht t ?_) hl (fun j x => hz j ?_), dHL I J ri rj A I1 J1 r1 l1 A1 hb w5 (fun f x => hf f ?_) hJ (fun t x => ht t ?_) hl (fun j x => hz j ?_)⟩, dDR I J ri rj A I1 J1 r1 l1 A1 hb w6 (fun f x => hf f ?_) hJ (fun t x => ht t ?_) hl (fun j x => hz j ?_), dBT I J ri rj A I1 J1 r1 l1 A1 hb w7 (fun f x => hf f ?_) hJ (fun t x => ht t ?_) hl (fun j x => hz j ?_)⟩
  · exact (by decide : ∀ f, f ∈ [65, 320, 237, 324] → f ∈ wfl) f x
  · exact (by decide : ∀ t, t ∈ [71, 72] → t ∈ wtl) t x
  · exact (by decide : ∀ z, z ∈ [0, 16, 18, 302, 303, 800, 801] → z ∈ wzl) _ x
  · exact (by decide : ∀ f, f ∈ [238, 321, 323] → f ∈ wfl) f x
  · cases x
  · exact (by decide : ∀ z, z ∈ [8, 12, 17] → z ∈ wzl) _ x
  · exact (by decide : ∀ f, f ∈ [0] → f ∈ wfl) f x
  · exact (by decide : ∀ t, t ∈ [1, 2, 3, 4, 5, 9] → t ∈ wtl) t x
  · exact (by decide : ∀ z, z ∈ [5, 400, 401, 402, 403, 404, 408] → z ∈ wzl) _ x
  · exact (by decide : ∀ f, f ∈ [10] → f ∈ wfl) f x
  · exact (by decide : ∀ t, t ∈ [11] → t ∈ wtl) t x
  · exact (by decide : ∀ z, z ∈ [4, 200] → z ∈ wzl) _ x
  · exact (by decide : ∀ f, f ∈ [65] → f ∈ wfl) f x
  · exact (by decide : ∀ t, t ∈ [325] → t ∈ wtl) t x
  · exact (by decide : ∀ z, z ∈ [314] → z ∈ wzl) _ x
  · exact (by decide : ∀ f, f ∈ [65] → f ∈ wfl) f x
  · exact (by decide : ∀ t, t ∈ [77] → t ∈ wtl) t x
  · exact (by decide : ∀ z, z ∈ [0, 311, 312] → z ∈ wzl) _ x
  · exact (by decide : ∀ f, f ∈ [322] → f ∈ wfl) f x
  · cases x
  · exact (by decide : ∀ z, z ∈ [11] → z ∈ wzl) _ x
end PK17
/-! ===== pure: COUNCIL, both sides (behind pk15) ===== -/
section PK18
variable {I : Nat → Int32} {J : Nat → Int64} {ri : Nat → Nat → Int32} {rj : Nat → Nat → Int64} {rq : Nat → Nat → Option Nat}
variable {U : Nat → Int32} {V : Nat → Int64} {si : Nat → Nat → Int32} {sj : Nat → Nat → Int64} {sq : Nat → Nat → Option Nat}
variable {tI : Nat → Nat → Int32} {tR : Nat → Nat → Nat → Int32}
theorem hb_an (x y : Int64) (j : Nat) : hb (x &&& y) j = (hb x j && hb y j) := by
  unfold hb
  rw [Int64.toBitVec_and, BitVec.getLsbD_and]
theorem hb_1 : ∀ i, i < 64 → hb 1 i = decide (i = 0) := by decide +kernel
/-- bits of a set that is moved down, its sign behind it -/
theorem hb_ss {a0 : Int64} {x : Int32} {P i : Nat} (hx : x.toInt = (P : Int)) (hP : P < 64) (hi : i < 64) : hb (a0 >>> (x.toInt64 &&& 63)) i = if P + i < 64 then hb a0 (P + i) else hb a0 63 := by
  have ex : x = nI P := by
    have e := toN (x := x) (by omega)
    rw [at_n hx] at e
    exact e
  rw [ex]
  unfold hb
  rw [Int64.toBitVec_shiftRight]
  show (a0.toBitVec.sshiftRight (((nI P).toInt64 &&& 63).toBitVec.smod 64).toNat).getLsbD i = _
  rw [wb_c P hP, wb_tb, wb_sm P hP, BitVec.toNat_ofNat, Nat.mod_eq_of_lt (show P < 2 ^ 64 by omega), BitVec.getLsbD_sshiftRight, BitVec.msb_eq_getLsbD_last]
  simp [hi]
/-- bits of a set that is moved down, nothing behind it -/
theorem hb_us {a0 : Int64} {x : Int32} {P i : Nat} (hx : x.toInt = (P : Int)) (hP : P < 64) : hb ((a0.toUInt64 >>> (x.toInt64.toUInt64 &&& Int64.toUInt64 63)).toInt64) i = hb a0 (P + i) := by
  have hs : (x.toInt64.toUInt64 &&& Int64.toUInt64 63).toNat = P := by
    have e := wb_cu P hP
    have ex := toN (x := x) (by omega)
    rw [at_n hx] at ex
    rw [← ex] at e
    rw [e]
    exact u_tn (by omega)
  have e : (a0.toUInt64 >>> (x.toInt64.toUInt64 &&& Int64.toUInt64 63)).toInt64.toBitVec = a0.toBitVec >>> P := by
    apply BitVec.eq_of_toNat_eq
    show (a0.toUInt64 >>> (x.toInt64.toUInt64 &&& Int64.toUInt64 63)).toNat = _
    rw [UInt64.toNat_shiftRight, hs, Nat.mod_eq_of_lt hP, BitVec.toNat_ushiftRight]
    rfl
  unfold hb
  rw [e, BitVec.getLsbD_ushiftRight]
theorem hb_63 (a0 : Int64) : hb a0 63 = decide (a0.toInt < 0) := by
  have e : a0.toBitVec.msb = decide (a0.toBitVec.toInt < 0) := BitVec.msb_eq_toInt
  rw [BitVec.msb_eq_getLsbD_last] at e
  exact e
theorem hb_64 (a0 : Int64) {j : Nat} (h : 64 ≤ j) : hb a0 j = false := BitVec.getLsbD_of_ge _ _ h
/-- none from P on -/
theorem there_c {a0 : Int64} {x : Int32} {P : Nat} (hx : x.toInt = (P : Int)) (hP : P < 64) : lg_cmp ((a0.toUInt64 >>> (x.toInt64.toUInt64 &&& Int64.toUInt64 63)).toInt64) 0 = 0 ↔ ∀ j, P ≤ j → j < 64 → hb a0 j = false := by
  rw [cmp0]
  constructor
  · intro h j h1 h2
    have e := hb_us (a0 := a0) (i := j - P) hx hP
    rw [h, hb_0, show P + (j - P) = j by omega] at e
    exact e.symm
  · intro h
    refine hb_z (fun i hi => ?_)
    rw [hb_us hx hP]
    by_cases c : P + i < 64
    · exact h _ (by omega) c
    · exact hb_64 _ (by omega)
theorem there_m {a0 : Int64} {x : Int32} {P : Nat} (hx : x.toInt = (P : Int)) (hP : P < 64) : lg_cmp (a0 >>> (x.toInt64 &&& 63)) 0 = 0 ↔ ∀ j, P ≤ j → j < 64 → hb a0 j = false := by
  rw [cmp0]
  constructor
  · intro h j h1 h2
    have e := hb_ss (a0 := a0) (i := j - P) hx hP (by omega)
    rw [h, hb_0, if_pos (show P + (j - P) < 64 by omega), show P + (j - P) = j by omega] at e
    exact e.symm
  · intro h
    refine hb_z (fun i hi => ?_)
    rw [hb_ss hx hP hi]
    by_cases c : P + i < 64
    · rw [if_pos c]
      exact h _ (by omega) c
    · rw [if_neg c]
      exact h 63 (by omega) (by omega)
theorem neg_m {a0 : Int64} (h : hb a0 63 = false) : ¬ lg_cmp a0 0 < 0 := by
  rw [hb_63] at h
  have h0 := of_decide_eq_false h
  have z : (0 : Int64).toInt = 0 := by decide
  rw [lgv, z]
  by_cases c : 0 < a0.toInt
  · rw [if_pos c]; decide
  · rw [if_neg c, if_pos (show a0.toInt = 0 by omega)]; decide
/-- one bit asked -/
theorem bit_m {a0 : Int64} {x : Int32} {P : Nat} (hx : x.toInt = (P : Int)) (hP : P < 64) : lg_cmp (a0 >>> (x.toInt64 &&& 63) &&& 1) 0 = 0 ↔ hb a0 P = false := by
  have e := hb_ss (a0 := a0) (i := 0) hx hP (by decide)
  rw [if_pos (show P + 0 < 64 by omega), Nat.add_zero] at e
  rw [cmp0]
  constructor
  · intro h
    have e2 := hb_an (a0 >>> (x.toInt64 &&& 63)) 1 0
    rw [h, hb_0, hb_1 0 (by decide), e, decide_eq_true rfl, Bool.and_true] at e2
    exact e2.symm
  · intro h
    refine hb_z (fun i hi => ?_)
    rw [hb_an, hb_1 i hi]
    by_cases c : i = 0
    · rw [c, e, h, Bool.false_and]
    · rw [decide_eq_false c, Bool.and_false]
/-! counting -/
theorem cnF_s (f : Nat → Bool) (k : Nat) : cnF f 0 (k + 1) = cnF f 0 k + (if f k = true then 1 else 0) := by
  rw [cnF_add k 1 0, Nat.zero_add]
  rfl
theorem cnF_z {f : Nat → Bool} : ∀ (n p : Nat), (∀ i, i < n → f (p + i) = false) → cnF f p n = 0
  | 0, _, _ => rfl
  | n + 1, p, h => by
    have h0 : f p = false := h 0 (Nat.succ_pos _)
    show (if f p = true then 1 else 0) + cnF f (p + 1) n = 0
    rw [h0, cnF_z n (p + 1) (fun i hi => by rw [Nat.add_assoc, Nat.add_comm 1 i]; exact h (i + 1) (by omega))]
    rfl
theorem cnF_64 {f q : Nat → Bool} {N : Nat} (hN : N ≤ 64) (h1 : ∀ p, p < N → f p = q p) (h2 : ∀ p, N ≤ p → p < 64 → f p = false) : cnF f 0 64 = cnF q 0 N := by
  have e : (64 : Nat) = N + (64 - N) := by omega
  rw [e, cnF_add N (64 - N) 0, cnF_z (64 - N) (0 + N) (fun i hi => h2 _ (by omega) (by omega)), Nat.add_zero]
  exact cnF_cg N 0 0 (fun i hi => by rw [Nat.zero_add]; exact h1 i hi)
/-- who isn't dead, of the class -/
theorem nd_4 {N : Nat} (hI : (I 0).toInt = (N : Int)) (hN : N ≤ 40) : ∀ (n k : Nat) (x : Int32) (s : Int64), x.toInt = (k : Int) → 40 - k < n → k ≤ N → (∀ q, q < k → hb s q = decide (ri 5 q ≠ 300)) → (∀ q, k ≤ q → q < 64 → hb s q = false) → ∃ s' : Int64, g_X0_notDead_L4 I J ri rj rq n s x = (s', I, J, ri, rj, rq) ∧ (∀ q, q < N → hb s' q = decide (ri 5 q ≠ 300)) ∧ ∀ q, N ≤ q → q < 64 → hb s' q = false := by
  intro n
  induction n with
  | zero => intro k _ _ _ h; exact absurd h (Nat.not_lt_zero _)
  | succ n ih =>
    intro k x s hx hn hk hs hz
    rw [g_X0_notDead_L4_e]
    simp only [↓ap1_n, g_X0_notDead_K30]
    by_cases c : I 0 ≤ x
    · have c1 := (le_n hI hx).mp c
      have ek : N = k := by omega
      rw [if_pos c]
      exact ⟨s, rfl, by rw [ek]; exact hs, by rw [ek]; exact hz⟩
    · have c1 : ¬ N ≤ k := fun y => c ((le_n hI hx).mpr y)
      have nx := up_i hx (by omega)
      rw [if_neg c, at_n hx]
      by_cases d : ri 5 k = 300
      · rw [if_pos d]
        refine ih (k + 1) _ s nx (by omega) (by omega) (fun q hq => ?_) (fun q h1 h2 => hz q (by omega) h2)
        by_cases e : q = k
        · rw [e, hz k (Nat.le_refl _) (by omega), decide_eq_false (fun y => y d)]
        · exact hs q (by omega)
      · have hbo : ∀ j, j < 64 → hb (s ||| ((1 : Int64) <<< (x.toInt64 &&& 63))) j = (hb s j || decide (k = j)) := fun j hj => by rw [hb_or (by omega) (by omega) j hj, at_n hx]
        rw [if_neg d]
        refine ih (k + 1) _ _ nx (by omega) (by omega) (fun q hq => ?_) (fun q h1 h2 => ?_)
        · rw [hbo q (by omega)]
          by_cases e : q = k
          · rw [e, decide_eq_true rfl, Bool.or_true, decide_eq_true d]
          · rw [hs q (by omega), decide_eq_false (show ¬ k = q from fun y => e y.symm), Bool.or_false]
        · rw [hbo q h2, hz q (by omega) h2, decide_eq_false (show ¬ k = q by omega)]
          rfl
theorem notDead_v {N : Nat} (hI : (I 0).toInt = (N : Int)) (hN : N ≤ 40) : ∃ s' : Int64, g_X0_notDead I J ri rj rq = (s', I, J, ri, rj, rq) ∧ (∀ q, q < N → hb s' q = decide (ri 5 q ≠ 300)) ∧ ∀ q, N ≤ q → q < 64 → hb s' q = false := by
  have k0 : (0 : Int32).toInt = 0 := by decide
  rw [g_X0_notDead_e]
  exact nd_4 hI hN _ 0 0 0 k0 (by rw [k0]; omega) (Nat.zero_le _) (fun q hq => absurd hq (Nat.not_lt_zero _)) (fun q _ _ => hb_0 q)
/-- votes of the class -/
theorem cv_6 {a0 : Int64} {a1 : Int32} {N : Nat} (hI : (I 0).toInt = (N : Int)) (hN : N ≤ 40) : ∀ (n k : Nat) (x cnt : Int32), x.toInt = (k : Int) → 40 - k < n → k ≤ N → cnt.toInt = (cnF (fun p => hb a0 p && decide (ri 9 p = a1)) 0 k : Int) → ∃ z : Int32, g_X0_countVotes_L6 a0 a1 I J ri rj rq n cnt x = (z, I, J, ri, rj, rq) ∧ z.toInt = (cnF (fun p => hb a0 p && decide (ri 9 p = a1)) 0 N : Int) := by
  intro n
  induction n with
  | zero => intro k _ _ _ h; exact absurd h (Nat.not_lt_zero _)
  | succ n ih =>
    intro k x cnt hx hn hk hc
    rw [g_X0_countVotes_L6_e]
    simp only [↓ap1_n, g_X0_countVotes_K38]
    by_cases c : I 0 ≤ x
    · have c1 := (le_n hI hx).mp c
      have ek : N = k := by omega
      rw [if_pos c]
      exact ⟨cnt, rfl, by rw [ek]; exact hc⟩
    · have c1 : ¬ N ≤ k := fun y => c ((le_n hI hx).mpr y)
      have nx := up_i hx (by omega)
      have le := cnF_le (f := fun p => hb a0 p && decide (ri 9 p = a1)) k 0
      have cs := cnF_s (fun p => hb a0 p && decide (ri 9 p = a1)) k
      rw [if_neg c, hasBit_v (by omega) (by omega), at_n hx]
      by_cases b : hb a0 k = true
      · rw [if_pos b, if_neg (show ¬ (1 : Int32) = 0 by decide)]
        by_cases d : ri 9 k = a1
        · rw [if_pos d]
          refine ih (k + 1) _ _ nx (by omega) (by omega) ?_
          rw [b, decide_eq_true d, if_pos (show (true && true) = true from rfl)] at cs
          rw [up_i hc (by omega), cs]
        · rw [if_neg d]
          refine ih (k + 1) _ _ nx (by omega) (by omega) ?_
          rw [b, decide_eq_false d, if_neg (show ¬ (true && false) = true by decide)] at cs
          rw [hc, cs]
          rfl
      · have bf : hb a0 k = false := by simpa using b
        rw [if_neg b, if_pos (show (0 : Int32) = 0 from rfl)]
        refine ih (k + 1) _ _ nx (by omega) (by omega) ?_
        rw [bf, Bool.false_and, if_neg (show ¬ false = true by decide)] at cs
        rw [hc, cs]
        rfl
theorem countVotes_v {a0 : Int64} {a1 : Int32} {N : Nat} (hI : (I 0).toInt = (N : Int)) (hN : N ≤ 40) : ∃ z : Int32, g_X0_countVotes a0 a1 I J ri rj rq = (z, I, J, ri, rj, rq) ∧ z.toInt = (cnF (fun p => hb a0 p && decide (ri 9 p = a1)) 0 N : Int) := by
  have k0 : (0 : Int32).toInt = 0 := by decide
  rw [g_X0_countVotes_e]
  exact cv_6 hI hN _ 0 0 0 k0 (by rw [k0]; omega) (Nat.zero_le _) k0
/-! the reference's count -/
section CO
variable {a0 : Int64} {A : Nat → Int32} {B1 B3 : Nat → Bool}
/-- people who vote, those THERE, their votes -/
def qQ (A : Nat → Int32) (B1 B3 : Nat → Bool) (p : Nat) : Bool := decide (A (740 + 12 * p + 3) ≠ 300) && (B1 p && B3 p)
def qT (a0 : Int64) (A : Nat → Int32) (B1 B3 : Nat → Bool) (p : Nat) : Bool := qQ A B1 B3 p && hb a0 p
def qV (a0 : Int64) (A : Nat → Int32) (B1 B3 : Nat → Bool) (v : Int32) (p : Nat) : Bool := qT a0 A B1 B3 p && decide (A (740 + 12 * p + 8) = v)
def INC (a0 : Int64) (A : Nat → Int32) (B1 B3 : Nat → Bool) (k : Nat) (x1 x2 x3 : Int32) : Prop := x1.toInt = (cnF (qQ A B1 B3) 0 k : Int) ∧ x2.toInt = (cnF (qT a0 A B1 B3) 0 k : Int) ∧ x3.toInt = (cnF (qV a0 A B1 B3 1) 0 k : Int) - (cnF (qV a0 A B1 B3 0) 0 k : Int)
theorem inc_q {k : Nat} {x1 x2 x3 : Int32} (h : INC a0 A B1 B3 k x1 x2 x3) (hq : qQ A B1 B3 k = false) : INC a0 A B1 B3 (k + 1) x1 x2 x3 := by
  obtain ⟨h1, h2, h3⟩ := h
  have t : qT a0 A B1 B3 k = false := by unfold qT; rw [hq, Bool.false_and]
  have v : ∀ w, qV a0 A B1 B3 w k = false := fun w => by unfold qV; rw [t, Bool.false_and]
  refine ⟨?_, ?_, ?_⟩
  · rw [cnF_s, hq, if_neg (show ¬ false = true by decide), Nat.add_zero]; exact h1
  · rw [cnF_s, t, if_neg (show ¬ false = true by decide), Nat.add_zero]; exact h2
  · rw [cnF_s, cnF_s, v, v, if_neg (show ¬ false = true by decide), Nat.add_zero, Nat.add_zero]; exact h3
theorem inc_1 {k : Nat} {x1 x2 x3 : Int32} (hk : k ≤ 40) (h : INC a0 A B1 B3 k x1 x2 x3) (hq : qQ A B1 B3 k = true) (hb0 : hb a0 k = false) : INC a0 A B1 B3 (k + 1) (x1 + Int32.ofInt 1) x2 x3 := by
  obtain ⟨h1, h2, h3⟩ := h
  have t : qT a0 A B1 B3 k = false := by unfold qT; rw [hb0, Bool.and_false]
  have v : ∀ w, qV a0 A B1 B3 w k = false := fun w => by unfold qV; rw [t, Bool.false_and]
  have le := cnF_le (f := qQ A B1 B3) k 0
  refine ⟨?_, ?_, ?_⟩
  · rw [cnF_s, hq, if_pos rfl]; exact up_i h1 (by omega)
  · rw [cnF_s, t, if_neg (show ¬ false = true by decide), Nat.add_zero]; exact h2
  · rw [cnF_s, cnF_s, v, v, if_neg (show ¬ false = true by decide), Nat.add_zero, Nat.add_zero]; exact h3
theorem inc_2 {k : Nat} {x1 x2 x3 d : Int32} (hk : k ≤ 40) (h : INC a0 A B1 B3 k x1 x2 x3) (hq : qQ A B1 B3 k = true) (hb1 : hb a0 k = true) (hd : (A (740 + 12 * k + 8) = 1 ∧ d = 1) ∨ (A (740 + 12 * k + 8) = 0 ∧ d = -1) ∨ (A (740 + 12 * k + 8) ≠ 1 ∧ A (740 + 12 * k + 8) ≠ 0 ∧ d = 0)) : INC a0 A B1 B3 (k + 1) (x1 + Int32.ofInt 1) (x2 + Int32.ofInt 1) (x3 + d) := by
  obtain ⟨h1, h2, h3⟩ := h
  have t : qT a0 A B1 B3 k = true := by unfold qT; rw [hq, hb1]; rfl
  have v : ∀ w, qV a0 A B1 B3 w k = decide (A (740 + 12 * k + 8) = w) := fun w => by unfold qV; rw [t, Bool.true_and]
  have le1 := cnF_le (f := qQ A B1 B3) k 0
  have le2 := cnF_le (f := qT a0 A B1 B3) k 0
  have le3 := cnF_le (f := qV a0 A B1 B3 1) k 0
  have le4 := cnF_le (f := qV a0 A B1 B3 0) k 0
  refine ⟨?_, ?_, ?_⟩
  · rw [cnF_s, hq, if_pos rfl]; exact up_i h1 (by omega)
  · rw [cnF_s, t, if_pos rfl]; exact up_i h2 (by omega)
  · rw [cnF_s, cnF_s, v, v]
    rcases hd with ⟨e, f⟩ | ⟨e, f⟩ | ⟨e1, e2, f⟩
    · rw [f, e, decide_eq_true rfl, if_pos rfl, decide_eq_false (show ¬ (1 : Int32) = 0 by decide), if_neg (show ¬ false = true by decide), i_add h3 (show (1 : Int32).toInt = 1 by decide) (by omega) (by omega)]
      omega
    · rw [f, e, decide_eq_true (show (0 : Int32) = 0 from rfl), decide_eq_false (show ¬ (0 : Int32) = 1 by decide), if_pos rfl, if_neg (show ¬ false = true by decide), i_add h3 (show (-1 : Int32).toInt = -1 by decide) (by omega) (by omega)]
      omega
    · rw [f, decide_eq_false e1, decide_eq_false e2, if_neg (show ¬ false = true by decide), i_add h3 (show (0 : Int32).toInt = 0 by decide) (by omega) (by omega)]
      omega
theorem co_40 {y1 y2 yn : Int32} {N : Nat} (hy : y1.toInt = (N : Int)) (hN : N ≤ 40) (h1 : ∀ (y : Int32) (p : Nat), y.toInt = (p : Int) → p < 40 → ∀ (h : Nat → Int32) (g : Nat → Int64), ∃ (h' : Nat → Int32) (g' : Nat → Int64), g_X12_isFor 2 y y2 U V (va_up si 405 h) (va_up sj 404 g) sq = ((if B1 p = true then 1 else 0), U, V, va_up si 405 h', va_up sj 404 g', sq)) (h3 : ∀ (y : Int32) (p : Nat), y.toInt = (p : Int) → p < 40 → ∀ (h : Nat → Int32) (g : Nat → Int64), ∃ (h' : Nat → Int32) (g' : Nat → Int64), g_X12_isFor 4 y y2 U V (va_up si 405 h) (va_up sj 404 g) sq = ((if B3 p = true then 1 else 0), U, V, va_up si 405 h', va_up sj 404 g', sq)) (hn : ∀ (h : Nat → Int32) (g : Nat → Int64), g_X12_numberOf 7 y2 50 U V (va_up si 405 h) (va_up sj 404 g) sq = (yn, U, V, va_up si 405 h, va_up sj 404 g, sq)) : ∀ (n k : Nat) (x1 x2 x3 x4 : Int32) (h : Nat → Int32) (g : Nat → Int64), x4.toInt = (k : Int) → 40 - k < n → k ≤ N → INC a0 (si 384) B1 B3 k x1 x2 x3 → ∃ (X1 X2 X3 : Int32) (s' : Nat → Nat → Int32) (m' : Nat → Nat → Int64), INC a0 (si 384) B1 B3 N X1 X2 X3 ∧ g_X12_council_L40 a0 U V sq y1 y2 n x1 x2 x3 x4 (va_up si 405 h) (va_up sj 404 g) = ((if yn * X1 ≤ 100 * X2 then (if X3 ≤ 0 then 0 else 1) else 2), U, V, s', m', sq) := by
  have s384 : ∀ h : Nat → Int32, va_up si 405 h 384 = si 384 := fun h => va_up_ne _ _ (by decide)
  have n10 : ¬ (1 : Int32) = 0 := by decide
  intro n
  induction n with
  | zero => intro k _ _ _ _ _ _ _ h; exact absurd h (Nat.not_lt_zero _)
  | succ n ih =>
    intro k x1 x2 x3 x4 h g hx hk2 hk hi
    rw [g_X12_council_L40_e]
    by_cases c : y1 ≤ x4
    · have c1 := (le_n hy hx).mp c
      have ek : k = N := by omega
      subst ek
      rw [if_pos c]
      simp only [↓ap1_n]
      rw [bn_n (hn h g)]
      try simp only [↓ap1_n]
      refine ⟨x1, x2, x3, va_up si 405 h, va_up sj 404 g, hi, ?_⟩
      by_cases d : yn * x1 ≤ 100 * x2
      · by_cases e : x3 ≤ 0
        · rw [if_pos d, if_pos e, if_pos d, if_pos e]
        · rw [if_pos d, if_neg e, if_pos d, if_neg e]
      · rw [if_neg d, if_neg d]
    · have c1 : ¬ N ≤ k := fun y => c ((le_n hy hx).mpr y)
      have nx := up_i hx (by omega)
      rw [if_neg c, bn_n (pa3 hx (by omega)), s384]
      by_cases d : si 384 (740 + 12 * k + 3) = 300
      · have q : qQ (si 384) B1 B3 k = false := by unfold qQ; rw [decide_eq_false (fun y => y d), Bool.false_and]
        rw [if_pos d, g_X12_council_K146_e]
        simp only [↓ap1_n]
        exact ih (k + 1) x1 x2 x3 _ h g nx (by omega) (by omega) (inc_q hi q)
      · obtain ⟨h', g', e1⟩ := h1 x4 k hx (by omega) h g
        rw [if_neg d, bn_n e1]
        by_cases b1 : B1 k = true
        · rw [if_pos b1, if_neg n10]
          obtain ⟨h2, g2, e3⟩ := h3 x4 k hx (by omega) h' g'
          rw [bn_n e3]
          by_cases b3 : B3 k = true
          · have q : qQ (si 384) B1 B3 k = true := by unfold qQ; rw [decide_eq_true d, b1, b3]; rfl
            rw [if_pos b3, if_neg n10]
            simp only [↓ap1_n]
            by_cases t : hb a0 k = false
            · rw [if_pos ((bit_m hx (by omega)).mpr t), g_X12_council_K146_e]
              simp only [↓ap1_n]
              exact ih (k + 1) _ x2 x3 _ h2 g2 nx (by omega) (by omega) (inc_1 (by omega) hi q t)
            · have tt : hb a0 k = true := by simpa using t
              rw [if_neg (fun y => t ((bit_m hx (by omega)).mp y)), bn_n (pa8 hx (by omega)), s384]
              by_cases v1 : si 384 (740 + 12 * k + 8) = 1
              · rw [if_pos v1, g_X12_council_K143_3_e]
                simp only [↓ap1_n]
                rw [g_X12_council_K146_e]
                simp only [↓ap1_n]
                exact ih (k + 1) _ _ _ _ h2 g2 nx (by omega) (by omega) (inc_2 (by omega) hi q tt (Or.inl ⟨v1, rfl⟩))
              · rw [if_neg v1, bn_n (pa8 hx (by omega)), s384]
                by_cases v0 : si 384 (740 + 12 * k + 8) = 0
                · rw [if_pos v0, g_X12_council_K143_2_e]
                  simp only [↓ap1_n]
                  rw [g_X12_council_K146_e]
                  simp only [↓ap1_n]
                  exact ih (k + 1) _ _ _ _ h2 g2 nx (by omega) (by omega) (inc_2 (by omega) hi q tt (Or.inr (Or.inl ⟨v0, rfl⟩)))
                · rw [if_neg v0, g_X12_council_K143_e]
                  simp only [↓ap1_n]
                  rw [g_X12_council_K146_e]
                  simp only [↓ap1_n]
                  exact ih (k + 1) _ _ _ _ h2 g2 nx (by omega) (by omega) (inc_2 (by omega) hi q tt (Or.inr (Or.inr ⟨v1, v0, rfl⟩)))
          · have q : qQ (si 384) B1 B3 k = false := by unfold qQ; rw [show B3 k = false by simpa using b3, Bool.and_false, Bool.and_false]
            rw [if_neg b3, if_pos (show (0 : Int32) = 0 from rfl), g_X12_council_K146_e]
            simp only [↓ap1_n]
            exact ih (k + 1) x1 x2 x3 _ h2 g2 nx (by omega) (by omega) (inc_q hi q)
        · have q : qQ (si 384) B1 B3 k = false := by unfold qQ; rw [show B1 k = false by simpa using b1, Bool.false_and, Bool.and_false]
          rw [if_neg b1, if_pos (show (0 : Int32) = 0 from rfl), g_X12_council_K146_e]
          simp only [↓ap1_n]
          exact ih (k + 1) x1 x2 x3 _ h' g' nx (by omega) (by omega) (inc_q hi q)
end CO
/-- COUNCIL -/
theorem council_v {a0 : Int64} (h : RSL I ri (si 384)) (hT : TXS I rq tI tR (si 384)) (hF : FCS I ri (si 384)) (hK : FLK I ri (si 384)) : (g_X11_council tI tR a0 I J ri rj rq).1 = (g_X12_council a0 U V si sj sq).1 := by
  have k0 : (0 : Int32).toInt = 0 := by decide
  have k1 : (1 : Int32).toInt = 1 := by decide
  have k3 : (3 : Int32).toInt = 3 := by decide
  have k6 : (6 : Int32).toInt = 6 := by decide
  have s1 : srC 1 = 2 := by decide
  have s3 : srC 3 = 4 := by decide
  have s6 : srC 6 = 7 := by decide
  have hK' := hK
  obtain ⟨i0, ⟨n0, n40⟩, kp⟩ := hK'
  have i0n : (I 0).toInt = (si 384 5).toInt := congrArg Int32.toInt i0
  obtain ⟨N, hN⟩ : ∃ N : Nat, (I 0).toInt = (N : Int) := ⟨(I 0).toInt.toNat, by omega⟩
  have hN40 : N ≤ 40 := by omega
  have nI0 := at_n hN
  have ec : I 320 = si 384 0 := h.2.2.1.1
  have bc := h.1.1
  have hm : vb9 (I 320) := ⟨by omega, by omega⟩
  rw [g_X11_council_e, g_X12_council_e]
  simp only [↓ap1_n]
  rw [← i0, ← ec]
  by_cases C : ∀ j, N ≤ j → j < 64 → hb a0 j = false
  · rw [if_pos ((there_c hN (by omega)).mpr C), if_neg (neg_m (C 63 (by omega) (by decide))), if_pos ((there_m hN (by omega)).mpr C), g_X10_decide_e]
    obtain ⟨nd, d1, d2, d3⟩ := notDead_v (I := I) (J := J) (ri := ri) (rj := rj) (rq := rq) hN hN40
    obtain ⟨w1, B1, R1, a1, a2, a3, a4, a5⟩ := who_v (I := I) (J := J) (ri := ri) (rj := rj) (rq := rq) (U := U) (V := V) (si := si) (sj := sj) (sq := sq) (tI := tI) (tR := tR) (a := 1) (mo := I 320) (asked := nd) (by omega) (by omega) hm hT hF hK
    have hF1 : FCS I R1 (si 384) := FCS_cg hF rfl (fun t ht j _ => by rw [a2 t (by simp only [List.mem_cons, List.not_mem_nil, or_false] at ht; omega) (by simp only [List.mem_cons, List.not_mem_nil, or_false] at ht; omega)]) rfl (fun _ _ _ => rfl) (Int.le_refl _)
    have hK1 : FLK I R1 (si 384) := FLK_cg hK rfl (fun t ht p _ => by rw [a2 t (by simp only [List.mem_cons, List.not_mem_nil, or_false] at ht; omega) (by simp only [List.mem_cons, List.not_mem_nil, or_false] at ht; omega)]) rfl (fun _ _ _ _ => rfl)
    obtain ⟨w3, B3, R3, c1, c2, c3, c4, c5⟩ := who_v (I := I) (J := J) (ri := R1) (rj := rj) (rq := rq) (U := U) (V := V) (si := si) (sj := sj) (sq := sq) (tI := tI) (tR := tR) (a := 3) (mo := I 320) (asked := nd) (by omega) (by omega) hm hT hF1 hK1
    have hR3 : ∀ t, t ≠ 102 → t ≠ 103 → R3 t = ri t := fun t x y => (c2 t x y).trans (a2 t x y)
    have hF3 : FCS I R3 (si 384) := FCS_cg hF rfl (fun t ht j _ => by rw [hR3 t (by simp only [List.mem_cons, List.not_mem_nil, or_false] at ht; omega) (by simp only [List.mem_cons, List.not_mem_nil, or_false] at ht; omega)]) rfl (fun _ _ _ => rfl) (Int.le_refl _)
    have s384 : ∀ h : Nat → Int32, va_up si 405 h 384 = si 384 := fun h => va_up_ne _ _ (by decide)
    obtain ⟨yn, y1, _⟩ := num_in (I := I) (J := J) (ri := R3) (rj := rj) (rq := rq) (U := U) (V := V) (si := si) (sj := sj) (sq := sq) (tI := tI) (tR := tR) (a := 6) (mo := I 320) (d := 50) (by omega) (by omega) hT hF3
    have hn : ∀ (h : Nat → Int32) (g : Nat → Int64), g_X12_numberOf 7 (I 320) 50 U V (va_up si 405 h) (va_up sj 404 g) sq = (yn, U, V, va_up si 405 h, va_up sj 404 g, sq) := fun h g => by
      obtain ⟨y, z1, z2⟩ := num_in (I := I) (J := J) (ri := R3) (rj := rj) (rq := rq) (U := U) (V := V) (si := va_up si 405 h) (sj := va_up sj 404 g) (sq := sq) (tI := tI) (tR := tR) (a := 6) (mo := I 320) (d := 50) (by omega) (by omega) (by rw [s384]; exact hT) (by rw [s384]; exact hF3)
      have e : y = yn := (Prod.mk.inj (z1.symm.trans y1)).1
      rw [e, s6] at z2
      exact z2
    rw [s1] at a5
    rw [s3] at c5
    obtain ⟨X1, X2, X3, s', m', ⟨x1, x2, x3⟩, e⟩ := co_40 (a0 := a0) (B1 := B1) (B3 := B3) (U := U) (V := V) (si := si) (sj := sj) (sq := sq) (y2 := I 320) hN hN40 a5 c5 hn ((40 - ((0 : Int32)).toInt).toNat + 1) 0 0 0 0 0 (si 405) (sj 404) k0 (by rw [k0]; omega) (Nat.zero_le _) ⟨k0, k0, k0⟩
    rw [up_id, up_id] at e
    rw [e, bn_n d1]
    try simp only [↓ap1_n]
    rw [bn_n a1, bn_n c1]
    try simp only [↓ap1_n]
    rw [g_X3_councilIn_e, bn_n y1]
    repeat rw [bnI_mk]
    try simp only [↓ap1_n]
    try rw [bnI_mk]
    -- the set of those who vote
    have hw : ∀ p, p < N → hb (w1 &&& w3) p = qQ (si 384) B1 B3 p := fun p hp => by
      obtain ⟨⟨_, _, _, p4, _⟩, _⟩ := kp p (by omega)
      rw [hb_an, a3 p (by omega), c3 p (by omega), d2 p hp, p4]
      unfold qQ
      cases decide (si 384 (740 + 12 * p + 3) ≠ 300) <;> cases B1 p <;> cases B3 p <;> rfl
    have hz : ∀ p, N ≤ p → p < 64 → hb (w1 &&& w3) p = false := fun p h1 h2 => by
      rw [hb_an]
      cases q : hb w1 p with
      | false => rfl
      | true =>
        have := a4 p h2 q
        rw [d3 p h1 h2] at this
        cases this
    have ht : ∀ p, p < N → hb (w1 &&& w3 &&& a0) p = qT a0 (si 384) B1 B3 p := fun p hp => by
      rw [hb_an, hw p hp]
      rfl
    have hz2 : ∀ p, N ≤ p → p < 64 → hb (w1 &&& w3 &&& a0) p = false := fun p h1 h2 => by rw [hb_an, hz p h1 h2, Bool.false_and]
    have e6 : g_J13_bitCount_95d88 (w1 &&& w3 &&& a0) = X2 := Int32.toInt_inj.mp (by rw [pl_v, x2, cnF_64 (by omega) ht hz2])
    have e9 : g_J13_bitCount_95d88 (w1 &&& w3) = X1 := Int32.toInt_inj.mp (by rw [pl_v, x1, cnF_64 (by omega) hw hz])
    rw [e6, e9]
    have r9 : ∀ p, p < 40 → R3 9 p = si 384 (740 + 12 * p + 8) := fun p hp => by
      rw [hR3 9 (by decide) (by decide)]
      exact (kp p hp).1.2.2.2.2.2
    have cv : ∀ v : Int32, cnF (fun p => hb (w1 &&& w3 &&& a0) p && decide (R3 9 p = v)) 0 N = cnF (qV a0 (si 384) B1 B3 v) 0 N := fun v => cnF_cg N 0 0 (fun i hi => by
      rw [Nat.zero_add]
      show (hb (w1 &&& w3 &&& a0) i && decide (R3 9 i = v)) = (qT a0 (si 384) B1 B3 i && decide (si 384 (740 + 12 * i + 8) = v))
      rw [ht i hi, r9 i (by omega)])
    obtain ⟨z1, f1, f2⟩ := countVotes_v (I := I) (J := J) (ri := R3) (rj := rj) (rq := rq) (a0 := w1 &&& w3 &&& a0) (a1 := 1) hN hN40
    obtain ⟨z0, f3, f4⟩ := countVotes_v (I := I) (J := J) (ri := R3) (rj := rj) (rq := rq) (a0 := w1 &&& w3 &&& a0) (a1 := 0) hN hN40
    rw [cv] at f2 f4
    by_cases d : yn * X1 ≤ 100 * X2
    · rw [if_pos d, if_pos d, f1, f3]
      dsimp only
      by_cases v : z1 ≤ z0
      · have v1 := Int32.le_iff_toInt_le.mp v
        rw [if_pos v, if_pos (show X3 ≤ 0 from Int32.le_iff_toInt_le.mpr (by rw [k0]; omega))]
      · have v1 : ¬ z1.toInt ≤ z0.toInt := fun y => v (Int32.le_iff_toInt_le.mpr y)
        rw [if_neg v, if_neg (show ¬ X3 ≤ 0 from fun y => by
          have := Int32.le_iff_toInt_le.mp y
          rw [k0] at this
          omega)]
    · rw [if_neg d, if_neg d]
  · rw [if_neg (fun y => C ((there_c hN (by omega)).mp y))]
    by_cases q : lg_cmp a0 0 < 0
    · rw [if_pos q]
      rfl
    · rw [if_neg q, if_neg (fun y => C ((there_m hN (by omega)).mp y))]
      rfl
end PK18
/-! ===== pure: CANT, both sides (behind pk17; mkpk19.py writes it) ===== -/
section PK19
variable {nI : Nat → Int32} {nJ : Nat → Int64} {nR : Nat → Nat → Int32} {nL : Nat → Nat → Int64} {nQ : Nat → Nat → Option Nat}
variable {I : Nat → Int32} {J : Nat → Int64} {ri : Nat → Nat → Int32} {rj : Nat → Nat → Int64} {rq : Nat → Nat → Option Nat}
variable {U : Nat → Int32} {V : Nat → Int64} {si : Nat → Nat → Int32} {sj : Nat → Nat → Int64} {sq : Nat → Nat → Option Nat}
variable {tI : Nat → Nat → Int32} {tR : Nat → Nat → Nat → Int32}
end PK19
