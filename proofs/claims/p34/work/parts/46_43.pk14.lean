/-! ===== pure: what single calls leave of it, both sides (behind pk13) ===== -/
section PK14
variable {I : Nat → Int32} {J : Nat → Int64} {ri : Nat → Nat → Int32} {rj : Nat → Nat → Int64} {rq : Nat → Nat → Option Nat}
variable {U : Nat → Int32} {V : Nat → Int64} {si : Nat → Nat → Int32} {sj : Nat → Nat → Int64} {sq : Nat → Nat → Option Nat}
variable {tI : Nat → Nat → Int32} {tR : Nat → Nat → Nat → Int32}
/-! congruences -/
section CG2
variable {I1 : Nat → Int32} {J1 : Nat → Int64} {r1 : Nat → Nat → Int32} {l1 : Nat → Nat → Int64} {A A1 : Nat → Int32}
theorem ARH_cg {n : Nat} (h : ARH n I ri rj A) (h237 : I1 237 = I 237) (h65 : I1 65 = I 65) (hr : ∀ c, c < 40 → r1 71 c = ri 71 c ∧ r1 72 c = ri 72 c) (hl : ∀ f, f < 600 → ∀ c, c < 40 → hb (l1 68 f) c = hb (rj 68 f) c) (hn : n ≤ 600) (h40 : (I 65).toNatClampNeg ≤ 40) (h16 : A1 16 = A 16) (hA : ∀ c k, c < 40 → k ∈ [2, 3] → A1 (100 + 16 * c + k) = A (100 + 16 * c + k)) (hK : ∀ i, 2520 ≤ i → i < 3720 → A1 i = A i) : ARH n I1 r1 l1 A1 := by
  obtain ⟨a, b, c, d⟩ := h
  refine ⟨by rw [h237, h16]; exact a, by rw [h16]; exact b, fun z hz => ?_, fun f hf z hz => ?_⟩
  · rw [(hr z hz).1, (hr z hz).2, hA z 2 hz (by decide), hA z 3 hz (by decide)]
    exact c z hz
  · rw [h65] at hz
    rw [hl f (by omega) z (by omega), d f hf z hz]
    unfold rkA
    rw [hK _ (by omega) (by omega), hK _ (by omega) (by omega)]
theorem ARL_cg (h : ARL I A) (h324 : I1 324 = I 324) (h0 : A1 0 = A 0) (h18 : A1 18 = A 18) : ARL I1 A1 := by
  unfold ARL
  rw [h324, h0, h18]
  exact h
theorem FUR_cg (h : FUR I A) (hI : ∀ f, f ∈ [238, 321, 323] → I1 f = I f) (hA : ∀ i, i ∈ [8, 12, 17] → A1 i = A i) : FUR I1 A1 := by
  unfold FUR
  rw [hI 238 (by decide), hI 321 (by decide), hI 323 (by decide), hA 8 (by decide), hA 12 (by decide), hA 17 (by decide)]
  exact h
end CG2
/-! shapes -/
def AR1 (b c : Int32 × vM) : Prop := ARH (b.2.1 320).toNatClampNeg b.2.1 b.2.2.2.1 b.2.2.2.2.1 (c.2.2.2.1 384) ∧ ARL b.2.1 (c.2.2.2.1 384)
def FU1 (b c : Int32 × vM) : Prop := FUR b.2.1 (c.2.2.2.1 384)
def LT1 (b c : Int32 × vM) : Prop := LTS b.2.1 b.2.2.2.1 (c.2.2.2.1 384)
def HL1 (b c : Int32 × vM) : Prop := HLD b.2.1 b.2.2.2.1 (c.2.2.2.1 384)
def DR1 (b c : Int32 × vM) : Prop := DRU b.2.1 b.2.2.1 b.2.2.2.1 (c.2.2.2.1 384)
def BT1 (b c : Int32 × vM) : Prop := b.2.1 322 = c.2.2.2.1 384 11
/-- rules -/
theorem rules_A {a0 a1 a2 a3 a4 : Int32} (hA : ARH (I 320).toNatClampNeg I ri rj (si 384) ∧ ARL I (si 384)) (hF : FUR I (si 384)) : AR1 (g_X11_rules a0 a1 a2 a3 a4 I J ri rj rq) (g_X12_rules a0 a1 a2 a3 a4 U V si sj sq) ∧ FU1 (g_X11_rules a0 a1 a2 a3 a4 I J ri rj rq) (g_X12_rules a0 a1 a2 a3 a4 U V si sj sq) := by
  have no : ∀ v w : Int32, AR1 (v, I, J, ri, rj, rq) (w, U, V, si, sj, sq) ∧ FU1 (v, I, J, ri, rj, rq) (w, U, V, si, sj, sq) := fun _ _ => ⟨hA, hF⟩
  rw [g_X11_rules_e, g_X12_rules_e]
  simp only [↓ap1_n, between_b, isIn_b, g_X11_rules_K55, g_X11_rules_K56_2, g_X12_rules_K51, g_X11_rules_K56, show (13 : Int32).toNatClampNeg = 13 from by decide, show (14 : Int32).toNatClampNeg = 14 from by decide, show (15 : Int32).toNatClampNeg = 15 from by decide, show (16 : Int32).toNatClampNeg = 16 from by decide, show (17 : Int32).toNatClampNeg = 17 from by decide]
  by_cases q0 : bt a0 0 40 = 0
  · simp only [if_pos q0]; exact no _ _
  · by_cases q1 : bt a1 0 5 = 0
    · simp only [if_neg q0, if_pos q1]; exact no _ _
    · by_cases q2 : bt a2 0 50 = 0
      · simp only [if_neg q0, if_neg q1, if_pos q2]; exact no _ _
      · by_cases q3 : bt a3 1 20 = 0
        · simp only [if_neg q0, if_neg q1, if_neg q2, if_pos q3]; exact no _ _
        · by_cases q4 : bt a4 0 100 = 0
          · simp only [if_neg q0, if_neg q1, if_neg q2, if_neg q3, if_pos q4]; exact no _ _
          · simp only [if_neg q0, if_neg q1, if_neg q2, if_neg q3, if_neg q4, va_up_self, up_up]
            have b := bt_n q3
            have k1 : (1 : Int32).toInt = 1 := by decide
            have k20 : (20 : Int32).toInt = 20 := by decide
            obtain ⟨⟨x1, x2, x3, x4⟩, xl⟩ := hA
            obtain ⟨f1, f2, f3, f4⟩ := hF
            have o : ∀ f, f ≠ 234 → f ≠ 235 → f ≠ 236 → f ≠ 237 → f ≠ 238 → va_up (va_up (va_up (va_up (va_up I 234 a0) 235 a1) 236 a2) 237 a3) 238 a4 f = I f := fun f h1 h2 h3 h4 h5 => by rw [va_up_ne _ _ h5, va_up_ne _ _ h4, va_up_ne _ _ h3, va_up_ne _ _ h2, va_up_ne _ _ h1]
            have oA : ∀ i, i ≠ 13 → i ≠ 14 → i ≠ 15 → i ≠ 16 → i ≠ 17 → upd (upd (upd (upd (upd (si 384) 13 a0) 14 a1) 15 a2) 16 a3) 17 a4 i = si 384 i := fun i h1 h2 h3 h4 h5 => by rw [upd_n _ _ h5, upd_n _ _ h4, upd_n _ _ h3, upd_n _ _ h2, upd_n _ _ h1]
            have e16 : upd (upd (upd (upd (upd (si 384) 13 a0) 14 a1) 15 a2) 16 a3) 17 a4 16 = a3 := by rw [upd_n _ _ (by decide), upd_s]
            have e17 : upd (upd (upd (upd (upd (si 384) 13 a0) 14 a1) 15 a2) 16 a3) 17 a4 17 = a4 := upd_s _ _ _
            have i237 : va_up (va_up (va_up (va_up (va_up I 234 a0) 235 a1) 236 a2) 237 a3) 238 a4 237 = a3 := by rw [va_up_ne _ _ (show (237 : Nat) ≠ 238 by decide), va_up_self]
            have i238 : va_up (va_up (va_up (va_up (va_up I 234 a0) 235 a1) 236 a2) 237 a3) 238 a4 238 = a4 := va_up_self _ _ _
            generalize va_up (va_up (va_up (va_up (va_up I 234 a0) 235 a1) 236 a2) 237 a3) 238 a4 = I1 at o i237 i238 ⊢
            generalize upd (upd (upd (upd (upd (si 384) 13 a0) 14 a1) 15 a2) 16 a3) 17 a4 = A at oA e16 e17 ⊢
            have eS : va_up si 384 A 384 = A := va_up_self _ _ _
            refine ⟨⟨?_, ?_⟩, ?_⟩
            · show ARH (I1 320).toNatClampNeg I1 ri rj (va_up si 384 A 384)
              rw [eS, o 320 (by decide) (by decide) (by decide) (by decide) (by decide)]
              refine ⟨by rw [i237, e16], by rw [e16]; omega, fun c hc => ?_, fun f hf c hc => ?_⟩
              · rw [oA _ (by omega) (by omega) (by omega) (by omega) (by omega), oA _ (by omega) (by omega) (by omega) (by omega) (by omega)]
                exact x3 c hc
              · rw [o 65 (by decide) (by decide) (by decide) (by decide) (by decide)] at hc
                rw [x4 f hf c hc]
                unfold rkA
                rw [oA _ (by omega) (by omega) (by omega) (by omega) (by omega), oA _ (by omega) (by omega) (by omega) (by omega) (by omega)]
            · show ARL I1 (va_up si 384 A 384)
              rw [eS]
              exact ARL_cg xl (o 324 (by decide) (by decide) (by decide) (by decide) (by decide)) (oA 0 (by decide) (by decide) (by decide) (by decide) (by decide)) (oA 18 (by decide) (by decide) (by decide) (by decide) (by decide))
            · show FUR I1 (va_up si 384 A 384)
              rw [eS]
              refine ⟨by rw [i238, e17], ?_, ?_, ?_⟩
              · rw [o 321 (by decide) (by decide) (by decide) (by decide) (by decide), oA 8 (by decide) (by decide) (by decide) (by decide) (by decide)]
                exact f2
              · rw [o 323 (by decide) (by decide) (by decide) (by decide) (by decide), oA 12 (by decide) (by decide) (by decide) (by decide) (by decide)]
                exact f3
              · rw [oA 12 (by decide) (by decide) (by decide) (by decide) (by decide)]
                exact f4
/-- sail -/
theorem sail_F {a0 a1 : Int32} (hF : FUR I (si 384)) (hB : I 322 = si 384 11) : FU1 (g_X11_sail a0 a1 I J ri rj rq) (g_X12_sail a0 a1 U V si sj sq) ∧ BT1 (g_X11_sail a0 a1 I J ri rj rq) (g_X12_sail a0 a1 U V si sj sq) := by
  have no : ∀ v w : Int32, FU1 (v, I, J, ri, rj, rq) (w, U, V, si, sj, sq) ∧ BT1 (v, I, J, ri, rj, rq) (w, U, V, si, sj, sq) := fun _ _ => ⟨hF, hB⟩
  rw [g_X11_sail_e, g_X12_sail_e]
  simp only [↓ap1_n, between_b, isIn_b, g_X11_sail_K20, g_X12_sail_K20, show (11 : Int32).toNatClampNeg = 11 from by decide, show (8 : Int32).toNatClampNeg = 8 from by decide, va_up_self, up_up]
  by_cases q0 : bt a0 0 40 = 0
  · simp only [if_pos q0]; exact no _ _
  · by_cases q1 : bt a1 0 100000 = 0
    · simp only [if_neg q0, if_pos q1]; exact no _ _
    · simp only [if_neg q0, if_neg q1]
      obtain ⟨f1, f2, f3, f4⟩ := hF
      refine ⟨⟨?_, ?_, ?_, ?_⟩, ?_⟩
      · show va_up (va_up I 322 a0) 321 (va_up I 322 a0 321 + a1) 238 = va_up si 384 (upd (upd (si 384) 11 a0) 8 (upd (si 384) 11 a0 8 + a1)) 384 17
        rw [va_up_self, va_up_ne _ _ (show (238 : Nat) ≠ 321 by decide), va_up_ne _ _ (show (238 : Nat) ≠ 322 by decide), upd_n _ _ (by decide), upd_n _ _ (by decide)]
        exact f1
      · show va_up (va_up I 322 a0) 321 (va_up I 322 a0 321 + a1) 321 = va_up si 384 (upd (upd (si 384) 11 a0) 8 (upd (si 384) 11 a0 8 + a1)) 384 8
        rw [va_up_self, va_up_self, upd_s, va_up_ne _ _ (show (321 : Nat) ≠ 322 by decide), upd_n _ _ (by decide), f2]
      · show va_up (va_up I 322 a0) 321 (va_up I 322 a0 321 + a1) 323 = va_up si 384 (upd (upd (si 384) 11 a0) 8 (upd (si 384) 11 a0 8 + a1)) 384 12
        rw [va_up_self, va_up_ne _ _ (show (323 : Nat) ≠ 321 by decide), va_up_ne _ _ (show (323 : Nat) ≠ 322 by decide), upd_n _ _ (by decide), upd_n _ _ (by decide)]
        exact f3
      · show -1 ≤ (va_up si 384 (upd (upd (si 384) 11 a0) 8 (upd (si 384) 11 a0 8 + a1)) 384 12).toInt
        rw [va_up_self, upd_n _ _ (by decide), upd_n _ _ (by decide)]
        exact f4
      · show va_up (va_up I 322 a0) 321 (va_up I 322 a0 321 + a1) 322 = va_up si 384 (upd (upd (si 384) 11 a0) 8 (upd (si 384) 11 a0 8 + a1)) 384 11
        rw [va_up_self, va_up_ne _ _ (show (322 : Nat) ≠ 321 by decide), va_up_self, upd_n _ _ (by decide), upd_s]
/-- lot -/
theorem lot_L {a0 : Int32} (hL : LTS I ri (si 384)) : LT1 (g_X11_lot a0 I J ri rj rq) (g_X12_lot a0 U V si sj sq) := by
  have no : ∀ v w : Int32, LT1 (v, I, J, ri, rj, rq) (w, U, V, si, sj, sq) := fun _ _ => hL
  have k5 : (5 : Int32).toInt = 5 := by decide
  rw [g_X11_lot_e, g_X12_lot_e]
  simp only [↓ap1_n, between_b, isIn_b, g_X11_lot_K26, g_X12_lot_K20, show (4 : Int32).toNatClampNeg = 4 from by decide, va_up_self, up_up]
  by_cases q0 : bt a0 0 60 = 0
  · simp only [if_pos q0]; exact no _ _
  · simp only [if_neg q0]
    obtain ⟨e, ⟨l0, l5⟩, lb⟩ := hL
    have en : (I 10).toInt = (si 384 4).toInt := congrArg Int32.toInt e
    have b := bt_n q0
    have k0 : (0 : Int32).toInt = 0 := by decide
    have k60 : (60 : Int32).toInt = 60 := by decide
    by_cases q1 : I 10 < 5
    · have d := Int32.lt_iff_toInt_lt.mp q1
      have q2 : ¬ si 384 4 = 5 := fun y => by
        rw [y] at en
        omega
      simp only [if_pos q1, if_neg q2]
      obtain ⟨l, hl⟩ : ∃ l : Nat, (si 384 4).toInt = (l : Int) := ⟨(si 384 4).toInt.toNat, by omega⟩
      have i80 : ((80 : Int32) + si 384 4).toNatClampNeg = 80 + l := at_n ((i_add (show (80 : Int32).toInt = 80 by decide) hl (by omega) (by omega)).trans (by omega))
      rw [i80, e, at_n hl]
      have n1 := t1_one (x := si 384 4) (by omega) (by omega)
      refine ⟨?_, ?_, fun j hj => ?_⟩
      · show va_up I 10 (si 384 4 + 1) 10 = va_up si 384 (upd (upd (si 384) (80 + l) a0) 4 (si 384 4 + 1)) 384 4
        rw [va_up_self, va_up_self, upd_s]
      · show 0 ≤ (va_up si 384 (upd (upd (si 384) (80 + l) a0) 4 (si 384 4 + 1)) 384 4).toInt ∧ (va_up si 384 (upd (upd (si 384) (80 + l) a0) 4 (si 384 4 + 1)) 384 4).toInt ≤ 5
        rw [va_up_self, upd_s, n1]
        omega
      · show va_up ri 11 (upd (ri 11) l a0) 11 j = va_up si 384 (upd (upd (si 384) (80 + l) a0) 4 (si 384 4 + 1)) 384 (80 + j) ∧ (0 ≤ (va_up si 384 (upd (upd (si 384) (80 + l) a0) 4 (si 384 4 + 1)) 384 (80 + j)).toInt ∧ (va_up si 384 (upd (upd (si 384) (80 + l) a0) 4 (si 384 4 + 1)) 384 (80 + j)).toInt ≤ 60)
        rw [va_up_self, va_up_self, upd_n _ _ (show 80 + j ≠ 4 by omega)]
        by_cases x : j = l
        · rw [x, upd_s, upd_s]
          exact ⟨rfl, by omega, by omega⟩
        · rw [upd_n _ _ x, upd_n _ _ (show 80 + j ≠ 80 + l by omega)]
          exact lb j hj
    · have d : ¬ (I 10).toInt < (5 : Int32).toInt := fun y => q1 (Int32.lt_iff_toInt_lt.mpr y)
      have q2 : si 384 4 = 5 := Int32.toInt_inj.mp (by omega)
      simp only [if_neg q1, if_pos q2]
      exact ⟨e, ⟨l0, l5⟩, lb⟩
/-- choose -/
theorem choose_K {a0 a1 : Int32} (hK : FLK I ri (si 384)) : FK1 (g_X11_choose a0 a1 I J ri rj rq) (g_X12_choose a0 a1 U V si sj sq) := by
  have no : ∀ v : Int32, FK1 (v, I, J, ri, rj, rq) (v, U, V, si, sj, sq) := fun _ => ⟨rfl, hK⟩
  have hK' := hK
  obtain ⟨i0, ⟨n0, n40⟩, kp⟩ := hK'
  rw [g_X11_choose_e, g_X12_choose_e, bn_n isPerson_c, bn_n isPerson_m, ← i0]
  simp only [↓ap1_n, between_b, isIn_b, g_X11_choose_K17, g_X12_choose_K17]
  by_cases q0 : bt a0 0 (I 0 - 1) = 0
  · simp only [if_pos q0]; exact no _
  · by_cases q1 : bt a1 (-1) 1 = 0
    · simp only [if_neg q0, if_pos q1]; exact no _
    · simp only [if_neg q0, if_neg q1]
      have b1 := bt_cell (n := I 0) (by rw [i0]; exact n0) (by rw [i0]; exact n40) q0
      have i0n : (I 0).toInt = (si 384 5).toInt := congrArg Int32.toInt i0
      obtain ⟨P, hP⟩ : ∃ P : Nat, a0.toInt = (P : Int) := ⟨a0.toInt.toNat, by omega⟩
      rw [ixp (c := a0) (k := 8) 8 (by decide) (by decide) (by omega) (by omega), at_n hP]
      refine ⟨rfl, ?_, ?_, fun p hp => ?_⟩
      · show I 0 = va_up si 384 (upd (si 384) (740 + 12 * P + 8) a1) 384 5
        rw [va_up_self, upd_n _ _ (by omega)]
        exact i0
      · show 0 ≤ (va_up si 384 (upd (si 384) (740 + 12 * P + 8) a1) 384 5).toInt ∧ (va_up si 384 (upd (si 384) (740 + 12 * P + 8) a1) 384 5).toInt ≤ 40
        rw [va_up_self, upd_n _ _ (by omega)]
        exact ⟨n0, n40⟩
      · obtain ⟨⟨c1, c2, c3, c4, c5, c6⟩, d⟩ := kp p hp
        have o : ∀ t, t ≠ 9 → va_up ri 9 (upd (ri 9) P a1) t = ri t := fun t ht => va_up_ne _ _ ht
        have oA : ∀ k, k < 8 → upd (si 384) (740 + 12 * P + 8) a1 (740 + 12 * p + k) = si 384 (740 + 12 * p + k) := fun k hk => upd_n _ _ (by omega)
        have o0 : upd (si 384) (740 + 12 * P + 8) a1 (740 + 12 * p) = si 384 (740 + 12 * p) := oA 0 (by decide)
        show (va_up ri 9 (upd (ri 9) P a1) 1 p = va_up si 384 (upd (si 384) (740 + 12 * P + 8) a1) 384 (740 + 12 * p) ∧ va_up ri 9 (upd (ri 9) P a1) 2 p = va_up si 384 (upd (si 384) (740 + 12 * P + 8) a1) 384 (740 + 12 * p + 1) ∧ va_up ri 9 (upd (ri 9) P a1) 3 p = va_up si 384 (upd (si 384) (740 + 12 * P + 8) a1) 384 (740 + 12 * p + 2) ∧ va_up ri 9 (upd (ri 9) P a1) 5 p = va_up si 384 (upd (si 384) (740 + 12 * P + 8) a1) 384 (740 + 12 * p + 3) ∧ va_up ri 9 (upd (ri 9) P a1) 4 p = va_up si 384 (upd (si 384) (740 + 12 * P + 8) a1) 384 (740 + 12 * p + 4) ∧ va_up ri 9 (upd (ri 9) P a1) 9 p = va_up si 384 (upd (si 384) (740 + 12 * P + 8) a1) 384 (740 + 12 * p + 8)) ∧ (0 ≤ (va_up si 384 (upd (si 384) (740 + 12 * P + 8) a1) 384 (740 + 12 * p)).toInt ∧ (va_up si 384 (upd (si 384) (740 + 12 * P + 8) a1) 384 (740 + 12 * p)).toInt ≤ 9) ∧ (0 ≤ (va_up si 384 (upd (si 384) (740 + 12 * P + 8) a1) 384 (740 + 12 * p + 1)).toInt ∧ (va_up si 384 (upd (si 384) (740 + 12 * P + 8) a1) 384 (740 + 12 * p + 1)).toInt ≤ 99) ∧ (0 ≤ (va_up si 384 (upd (si 384) (740 + 12 * P + 8) a1) 384 (740 + 12 * p + 2)).toInt ∧ (va_up si 384 (upd (si 384) (740 + 12 * P + 8) a1) 384 (740 + 12 * p + 2)).toInt ≤ 7) ∧ (0 ≤ (va_up si 384 (upd (si 384) (740 + 12 * P + 8) a1) 384 (740 + 12 * p + 3)).toInt ∧ (va_up si 384 (upd (si 384) (740 + 12 * P + 8) a1) 384 (740 + 12 * p + 3)).toInt ≤ 300) ∧ ((va_up si 384 (upd (si 384) (740 + 12 * P + 8) a1) 384 (740 + 12 * p + 3)).toInt < 5 ∨ 100 ≤ (va_up si 384 (upd (si 384) (740 + 12 * P + 8) a1) 384 (740 + 12 * p + 3)).toInt)
        rw [va_up_self, va_up_self, o 1 (by decide), o 2 (by decide), o 3 (by decide), o 5 (by decide), o 4 (by decide), o0, oA 1 (by decide), oA 2 (by decide), oA 3 (by decide), oA 4 (by decide)]
        refine ⟨⟨c1, c2, c3, c4, c5, ?_⟩, d⟩
        by_cases e : p = P
        · rw [e, upd_s, upd_s]
        · rw [upd_n _ _ e, upd_n _ _ (by omega)]
          exact c6
/-- title -/
theorem title_H {a0 a1 : Int32} (h : RSL I ri (si 384)) (hK : FLK I ri (si 384)) (hH : HLD I ri (si 384)) : HL1 (g_X11_title a0 a1 I J ri rj rq) (g_X12_title a0 a1 U V si sj sq) := by
  have no : ∀ v w : Int32, HL1 (v, I, J, ri, rj, rq) (w, U, V, si, sj, sq) := fun _ _ => hH
  obtain ⟨⟨_, ⟨c0, c4⟩, _⟩, _, ⟨_, _, e2, _⟩, _⟩ := h
  obtain ⟨i0, ⟨n0, n40⟩, kp⟩ := hK
  have ic : g_X11_isCell a0 I J ri rj rq = (bt a0 0 (I 65 - 1), I, J, ri, rj, rq) := rfl
  have im : g_X12_isCell a0 U V si sj sq = (bt a0 0 (si 384 2 - 1), U, V, si, sj, sq) := rfl
  rw [g_X11_title_e, g_X12_title_e, bn_n ic, bn_n im, ← e2]
  by_cases q0 : bt a0 0 (I 65 - 1) = 0
  · rw [if_pos q0, if_pos q0]; exact no _ _
  rw [if_neg q0, if_neg q0]
  have b := bt_cell c0 c4 q0
  obtain ⟨C, hC⟩ : ∃ C : Nat, a0.toInt = (C : Int) := ⟨a0.toInt.toNat, by omega⟩
  have yes : (-1 ≤ a1.toInt ∧ a1.toInt ≤ 39) → HL1 (g_X11_title_K41 a0 a1 I J ri rj rq) (g_X12_title_K35 a0 a1 U V si sj sq) := fun hv => by
    rw [g_X11_title_K41_e, g_X11_title_K46_2_e, g_X12_title_K35_e]
    simp only [↓ap1_n]
    rw [g_X11_title_K61_2_e, at_n hC, ixk (c := a0) (k := 14) 14 (by decide) (by decide) (by omega) (by omega), at_n hC]
    intro c hc
    show (c < (I 65).toNatClampNeg → va_up ri 325 (upd (ri 325) C a1) 325 c = va_up si 384 (upd (si 384) (100 + 16 * C + 14) a1) 384 (100 + 16 * c + 14) ∧ (-1 ≤ (va_up si 384 (upd (si 384) (100 + 16 * C + 14) a1) 384 (100 + 16 * c + 14)).toInt ∧ (va_up si 384 (upd (si 384) (100 + 16 * C + 14) a1) 384 (100 + 16 * c + 14)).toInt ≤ 39)) ∧ ((I 65).toNatClampNeg ≤ c → va_up ri 325 (upd (ri 325) C a1) 325 c = -1)
    rw [va_up_self, va_up_self]
    by_cases e : c = C
    · rw [e, upd_s, upd_s]
      exact ⟨fun _ => ⟨rfl, hv⟩, fun y => by have z := clampE (I 65); omega⟩
    · rw [upd_n _ _ e, upd_n _ _ (by omega)]
      exact hH c hc
  by_cases q1 : a1 = -1
  · rw [if_pos q1, if_pos q1]
    exact yes (by rw [q1]; decide)
  rw [if_neg q1, if_neg q1, bn_n isPerson_c, bn_n isPerson_m, ← i0]
  by_cases q2 : bt a1 0 (I 0 - 1) = 0
  · rw [if_pos q2, if_pos q2]; exact no _ _
  rw [if_neg q2, if_neg q2]
  have b1 := bt_cell (n := I 0) (by rw [i0]; exact n0) (by rw [i0]; exact n40) q2
  have i0n : (I 0).toInt = (si 384 5).toInt := congrArg Int32.toInt i0
  obtain ⟨P, hP⟩ : ∃ P : Nat, a1.toInt = (P : Int) := ⟨a1.toInt.toNat, by omega⟩
  simp only [↓ap1_n]
  rw [bn_n (pa3 hP (by omega)), at_n hP, (kp P (by omega)).1.2.2.2.1]
  by_cases q3 : si 384 (740 + 12 * P + 3) = 300
  · rw [if_pos q3, if_pos q3]; exact no _ _
  · rw [if_neg q3, if_neg q3]
    exact yes (by omega)
/-- person -/
theorem person_K {a0 a1 a2 a3 a4 : Int32} (h : RSL I ri (si 384)) (hK : FLK I ri (si 384)) : FK1 (g_X11_person a0 a1 a2 a3 a4 I J ri rj rq) (g_X12_person a0 a1 a2 a3 a4 U V si sj sq) := by
  have no : FK1 ((-1 : Int32), I, J, ri, rj, rq) ((-1 : Int32), U, V, si, sj, sq) := ⟨rfl, hK⟩
  have k0 : (0 : Int32).toInt = 0 := by decide
  have k40 : (40 : Int32).toInt = 40 := by decide
  obtain ⟨_, ⟨⟨r0, r5⟩, _, _⟩, ⟨_, e1, _, _⟩, _⟩ := h
  obtain ⟨i0, ⟨n0, n40⟩, kp⟩ := hK
  have i0n : (I 0).toInt = (si 384 5).toInt := congrArg Int32.toInt i0
  rw [g_X11_person_e, g_X12_person_e]
  simp only [↓ap1_n, between_b, isIn_b, g_X11_person_K54, g_X11_person_K55_2, g_X11_person_K77_2, g_X12_person_K61, show (5 : Int32).toNatClampNeg = 5 from by decide]
  by_cases q0 : bt a0 0 9 = 0
  · simp only [if_pos q0]; exact no
  by_cases q1 : bt a1 0 99 = 0
  · simp only [if_neg q0, if_pos q1]; exact no
  by_cases q2 : bt a2 0 7 = 0
  · simp only [if_neg q0, if_neg q1, if_pos q2]; exact no
  simp only [if_neg q0, if_neg q1, if_neg q2]
  rw [bn_n isRing_c, bn_n isRing_m, ← e1]
  by_cases q3 : bt a3 0 (I 64 - 1) = 0
  · simp only [if_pos q3]; exact no
  by_cases q4 : bt a4 0 100 = 0
  · simp only [if_neg q3, if_pos q4]; exact no
  simp only [if_neg q3, if_neg q4]
  rw [g_X11_person_K55_e]
  simp only [↓ap1_n]
  rw [g_X11_person_K77_e]
  by_cases q5 : I 0 < 40
  · have d := Int32.lt_iff_toInt_lt.mp q5
    have q6 : ¬ si 384 5 = 40 := fun y => by
      rw [y] at i0n
      omega
    obtain ⟨n, hn⟩ : ∃ n : Nat, (si 384 5).toInt = (n : Int) := ⟨(si 384 5).toInt.toNat, by omega⟩
    have hn0 : (I 0).toInt = (n : Int) := by omega
    have b0 := bt_n q0
    have b1 := bt_n q1
    have b2 := bt_n q2
    have b3 := bt_cell (n := I 64) (by rw [e1]; exact r0) (by rw [e1]; omega) q3
    have e1n : (I 64).toInt = (si 384 1).toInt := congrArg Int32.toInt e1
    have k9 : (9 : Int32).toInt = 9 := by decide
    have k99 : (99 : Int32).toInt = 99 := by decide
    have k7 : (7 : Int32).toInt = 7 := by decide
    have s1 := t1_one (x := si 384 5) (by omega) (by omega)
    rw [if_pos q5, if_neg q6, g_X0_addPerson_e]
    simp only [↓ap1_n, va_up_self]
    rw [if_pos q5, bnI_mk, at_n hn0]
    have ix : ∀ (k : Int32) (m : Nat), k.toInt = (m : Int) → m ≤ 11 → ((740 : Int32) + (12 : Int32) * si 384 5 + k).toNatClampNeg = 740 + 12 * n + m := fun k m hk hm => by rw [ixp (c := si 384 5) (k := k) m hk hm (by omega) (by omega), at_n hn]
    rw [ix 0 0 (by decide) (by decide), ix 1 1 (by decide) (by decide), ix 2 2 (by decide) (by decide), ix 3 3 (by decide) (by decide), ix 4 4 (by decide) (by decide), ix 7 7 (by decide) (by decide), ix 8 8 (by decide) (by decide)]
    simp only [up_up]
    -- the class's rows
    generalize eR : va_up (va_up (va_up (va_up (va_up (va_up (va_up (va_up (va_up ri 1 _) 2 _) 3 _) 5 _) 4 _) 6 _) 7 _) 8 _) 9 _ = R
    have R1 : R 1 = upd (ri 1) n a0 := by rw [← eR]; rfl
    have R2 : R 2 = upd (ri 2) n a1 := by rw [← eR]; rfl
    have R3 : R 3 = upd (ri 3) n a2 := by rw [← eR]; rfl
    have R5 : R 5 = upd (ri 5) n a3 := by rw [← eR]; rfl
    have R4 : R 4 = upd (ri 4) n a4 := by rw [← eR]; rfl
    have R9 : R 9 = upd (ri 9) n (-1) := by rw [← eR]; rfl
    refine ⟨?_, ?_⟩
    · show I 0 = si 384 5 + 1 - 1
      rw [i0]
      grind
    · generalize eA : upd (upd (upd (upd (upd (upd (upd (upd (si 384) (740 + 12 * n + 0) a0) (740 + 12 * n + 1) a1) (740 + 12 * n + 2) a2) (740 + 12 * n + 3) a3) (740 + 12 * n + 4) a4) (740 + 12 * n + 7) (-1)) (740 + 12 * n + 8) (-1)) 5 (si 384 5 + 1) = A
      have A5 : A 5 = si 384 5 + 1 := by rw [← eA, upd_s]
      have oA : ∀ i, i ≠ 5 → (i < 740 + 12 * n ∨ 740 + 12 * n + 12 ≤ i) → A i = si 384 i := fun i h1 h2 => by rw [← eA, upd_n _ _ h1, upd_n _ _ (by omega), upd_n _ _ (by omega), upd_n _ _ (by omega), upd_n _ _ (by omega), upd_n _ _ (by omega), upd_n _ _ (by omega), upd_n _ _ (by omega)]
      have A0 : A (740 + 12 * n) = a0 := by rw [← eA, upd_n _ _ (by omega), upd_n _ _ (by omega), upd_n _ _ (by omega), upd_n _ _ (by omega), upd_n _ _ (by omega), upd_n _ _ (by omega), upd_n _ _ (by omega)]; exact upd_s _ _ _
      have A1 : A (740 + 12 * n + 1) = a1 := by rw [← eA, upd_n _ _ (by omega), upd_n _ _ (by omega), upd_n _ _ (by omega), upd_n _ _ (by omega), upd_n _ _ (by omega), upd_n _ _ (by omega), upd_s]
      have A2 : A (740 + 12 * n + 2) = a2 := by rw [← eA, upd_n _ _ (by omega), upd_n _ _ (by omega), upd_n _ _ (by omega), upd_n _ _ (by omega), upd_n _ _ (by omega), upd_s]
      have A3 : A (740 + 12 * n + 3) = a3 := by rw [← eA, upd_n _ _ (by omega), upd_n _ _ (by omega), upd_n _ _ (by omega), upd_n _ _ (by omega), upd_s]
      have A4 : A (740 + 12 * n + 4) = a4 := by rw [← eA, upd_n _ _ (by omega), upd_n _ _ (by omega), upd_n _ _ (by omega), upd_s]
      have A8 : A (740 + 12 * n + 8) = -1 := by rw [← eA, upd_n _ _ (by omega), upd_s]
      show FLK (va_up I 0 (I 0 + 1)) R (va_up si 384 A 384)
      rw [va_up_self]
      refine ⟨by rw [va_up_self, A5, i0], by rw [A5, s1]; omega, fun p hp => ?_⟩
      by_cases e : p = n
      · rw [e, R1, R2, R3, R5, R4, R9, upd_s, upd_s, upd_s, upd_s, upd_s, upd_s, A0, A1, A2, A3, A4, A8]
        exact ⟨⟨rfl, rfl, rfl, rfl, rfl, rfl⟩, by omega, by omega, by omega, by omega, by omega⟩
      · rw [R1, R2, R3, R5, R4, R9, upd_n _ _ e, upd_n _ _ e, upd_n _ _ e, upd_n _ _ e, upd_n _ _ e, upd_n _ _ e, oA _ (by omega) (by omega), oA _ (by omega) (by omega), oA _ (by omega) (by omega), oA _ (by omega) (by omega), oA _ (by omega) (by omega), oA _ (by omega) (by omega)]
        exact kp p hp
  · have d : ¬ (I 0).toInt < (40 : Int32).toInt := fun y => q5 (Int32.lt_iff_toInt_lt.mpr y)
    have q6 : si 384 5 = 40 := Int32.toInt_inj.mp (by omega)
    rw [if_neg q5, if_pos q6]
    exact ⟨rfl, i0, ⟨n0, n40⟩, kp⟩
/-- cell -/
theorem cell_A {a0 a1 a2 a3 a4 a5 : Int32} (h : RSL I ri (si 384)) (hA : ARH (I 320).toNatClampNeg I ri rj (si 384) ∧ ARL I (si 384)) (hD : DRU I J ri (si 384)) (hH : HLD I ri (si 384)) : AR1 (g_X11_cell a0 a1 a2 a3 a4 a5 I J ri rj rq) (g_X12_cell a0 a1 a2 a3 a4 a5 U V si sj sq) ∧ DR1 (g_X11_cell a0 a1 a2 a3 a4 a5 I J ri rj rq) (g_X12_cell a0 a1 a2 a3 a4 a5 U V si sj sq) ∧ HL1 (g_X11_cell a0 a1 a2 a3 a4 a5 I J ri rj rq) (g_X12_cell a0 a1 a2 a3 a4 a5 U V si sj sq) := by
  have no : ∀ v w : Int32, AR1 (v, I, J, ri, rj, rq) (w, U, V, si, sj, sq) ∧ DR1 (v, I, J, ri, rj, rq) (w, U, V, si, sj, sq) ∧ HL1 (v, I, J, ri, rj, rq) (w, U, V, si, sj, sq) := fun _ _ => ⟨hA, hD, hH⟩
  obtain ⟨⟨⟨m0, m6⟩, ⟨c0, c4⟩, hl⟩, hmx, ⟨e0, e1, e2, e3⟩, _⟩ := h
  have k0 : (0 : Int32).toInt = 0 := by decide
  have k40 : (40 : Int32).toInt = 40 := by decide
  rw [g_X11_cell_e, g_X12_cell_e]
  simp only [isRing_c, isRing_m, bnI_mk, ↓ap1_n, between_b, isIn_b, g_X11_cell_K70, g_X11_cell_K71_2, g_X11_cell_K103_2, g_X12_cell_K86, show (2 : Int32).toNatClampNeg = 2 from by decide]
  rw [← e1]
  by_cases q0 : bt a0 0 (I 64 - 1) = 0
  · simp only [if_pos q0]; exact no _ _
  by_cases q1 : bt a1 (-500) 3000 = 0
  · simp only [if_neg q0, if_pos q1]; exact no _ _
  by_cases q2 : bt a2 0 31 = 0
  · simp only [if_neg q0, if_neg q1, if_pos q2]; exact no _ _
  by_cases q3 : bt a3 0 31 = 0
  · simp only [if_neg q0, if_neg q1, if_neg q2, if_pos q3]; exact no _ _
  by_cases q4 : bt a4 0 500 = 0
  · simp only [if_neg q0, if_neg q1, if_neg q2, if_neg q3, if_pos q4]; exact no _ _
  by_cases q5 : bt a5 0 400 = 0
  · simp only [if_neg q0, if_neg q1, if_neg q2, if_neg q3, if_neg q4, if_pos q5]; exact no _ _
  simp only [if_neg q0, if_neg q1, if_neg q2, if_neg q3, if_neg q4, if_neg q5]
  rw [g_X11_cell_K71_e]
  simp only [↓ap1_n, g_X11_cell_K103]
  rw [← e0, ← e2]
  by_cases q6 : (0 : Int32) < I 320
  · simp only [if_pos q6]; exact no _ _
  by_cases q7 : I 65 < 40
  · have d1 := Int32.lt_iff_toInt_lt.mp q7
    have q8 : ¬ I 65 = 40 := fun y => by rw [y] at d1; omega
    have d6 : ¬ (0 : Int32).toInt < (I 320).toInt := fun y => q6 (Int32.lt_iff_toInt_lt.mpr y)
    have z320 : (I 320).toNatClampNeg = 0 := at_n (show (I 320).toInt = ((0 : Nat) : Int) by omega)
    obtain ⟨n, hn⟩ : ∃ n : Nat, (I 65).toInt = (n : Int) := ⟨(I 65).toInt.toNat, by omega⟩
    have s1 := t1_one (x := I 65) (by omega) (by omega)
    have z1 : (I 65 + 1).toNatClampNeg = n + 1 := at_n (by rw [s1]; omega)
    have b2 := bt_n q2
    have b3 := bt_n q3
    have k31 : (31 : Int32).toInt = 31 := by decide
    simp only [if_neg q6, if_pos q7, if_neg q8]
    rw [g_X2_addCell_e]
    simp only [↓ap1_n, va_up_self]
    rw [if_pos q7, at_n hn]
    have ix : ∀ (k : Int32) (m : Nat), k.toInt = (m : Int) → m ≤ 15 → ((100 : Int32) + (16 : Int32) * I 65 + k).toNatClampNeg = 100 + 16 * n + m := fun k m hk hm => by rw [ixk (c := I 65) (k := k) m hk hm (by omega) (by omega), at_n hn]
    rw [ix 0 0 (by decide) (by decide), ix 1 1 (by decide) (by decide), ix 2 2 (by decide) (by decide), ix 3 3 (by decide) (by decide), ix 4 4 (by decide) (by decide), ix 5 5 (by decide) (by decide), ix 14 14 (by decide) (by decide)]
    simp only [up_up]
    generalize eA : upd (upd (upd (upd (upd (upd (upd (upd (si 384) (100 + 16 * n + 0) a0) (100 + 16 * n + 1) a1) (100 + 16 * n + 2) a2) (100 + 16 * n + 3) a3) (100 + 16 * n + 4) a4) (100 + 16 * n + 5) a5) (100 + 16 * n + 14) (-1)) 2 (I 65 + 1) = A
    have oA : ∀ i, i ≠ 2 → (i < 100 + 16 * n ∨ 100 + 16 * n + 5 < i) → i ≠ 100 + 16 * n + 14 → A i = si 384 i := fun i h1 h2 h3 => by rw [← eA, upd_n _ _ h1, upd_n _ _ h3, upd_n _ _ (by omega), upd_n _ _ (by omega), upd_n _ _ (by omega), upd_n _ _ (by omega), upd_n _ _ (by omega), upd_n _ _ (by omega)]
    have A2 : A (100 + 16 * n + 2) = a2 := by rw [← eA, upd_n _ _ (by omega), upd_n _ _ (by omega), upd_n _ _ (by omega), upd_n _ _ (by omega), upd_n _ _ (by omega), upd_s]
    have A3 : A (100 + 16 * n + 3) = a3 := by rw [← eA, upd_n _ _ (by omega), upd_n _ _ (by omega), upd_n _ _ (by omega), upd_n _ _ (by omega), upd_s]
    generalize eR : va_up (va_up (va_up (va_up (va_up (va_up ri 69 _) 70 _) 71 _) 72 _) 73 _) 74 _ = R
    have R71 : R 71 = upd (ri 71) n a2 := by rw [← eR]; rfl
    have R72 : R 72 = upd (ri 72) n a3 := by rw [← eR]; rfl
    have R77 : R 77 = ri 77 := by rw [← eR]; rfl
    have fj := g_X2_joinRing_f (a0 := I 65) (a1 := a0) (I := I) (J := J) (ri := R) (rj := rj) (rq := rq)
    generalize g_X2_joinRing (I 65) a0 I J R rj rq = b at fj ⊢
    obtain ⟨I1, J1, r1, l1, q1⟩ := b
    have j71 : r1 71 = R 71 := fj.2.2.1 71 (by decide)
    have j72 : r1 72 = R 72 := fj.2.2.1 72 (by decide)
    have j77 : r1 77 = R 77 := fj.2.2.1 77 (by decide)
    obtain ⟨⟨x1, x2, x3, x4⟩, xl⟩ := hA
    rw [bnV_mk, bnI_mk]
    refine ⟨⟨?_, ?_⟩, fun c hc => ?_, fun c hc => ?_⟩
    · show ARH (va_up I 65 (I 65 + 1) 320).toNatClampNeg (va_up I 65 (I 65 + 1)) r1 rj (va_up si 384 A 384)
      rw [va_up_self, va_up_ne _ _ (show (320 : Nat) ≠ 65 by decide), z320]
      refine ⟨?_, ?_, fun c hc => ?_, fun f hf => absurd hf (Nat.not_lt_zero _)⟩
      · rw [va_up_ne _ _ (show (237 : Nat) ≠ 65 by decide), oA 16 (by decide) (by omega) (by omega)]
        exact x1
      · rw [oA 16 (by decide) (by omega) (by omega)]
        exact x2
      · rw [j71, j72, R71, R72]
        by_cases e : c = n
        · rw [e, upd_s, upd_s, A2, A3]
          exact ⟨rfl, rfl, by omega, by omega⟩
        · rw [upd_n _ _ e, upd_n _ _ e, oA _ (by omega) (by omega) (by omega), oA _ (by omega) (by omega) (by omega)]
          exact x3 c hc
    · show ARL (va_up I 65 (I 65 + 1)) (va_up si 384 A 384)
      rw [va_up_self]
      exact ARL_cg xl (va_up_ne _ _ (by decide)) (oA 0 (by decide) (by omega) (by omega)) (oA 18 (by decide) (by omega) (by omega))
    · obtain ⟨d1', d2, d3, d4⟩ := hD c hc
      show va_up si 384 A 384 (100 + 16 * c + 12) = (if hb (J 67) c = true then 1 else 0) ∧ r1 77 c = va_up si 384 A 384 (100 + 16 * c + 11) ∧ (0 ≤ (va_up si 384 A 384 (100 + 16 * c + 11)).toInt ∧ (va_up si 384 A 384 (100 + 16 * c + 11)).toInt ≤ (va_up si 384 A 384 0).toInt) ∧ ((va_up I 65 (I 65 + 1) 65).toNatClampNeg ≤ c → hb (J 67) c = false)
      rw [va_up_self, va_up_self, oA _ (by omega) (by omega) (by omega), oA _ (by omega) (by omega) (by omega), oA 0 (by decide) (by omega) (by omega), j77, R77, z1]
      exact ⟨d1', d2, d3, fun y => d4 (by rw [at_n hn]; omega)⟩
    · obtain ⟨t1, t2⟩ := hH c hc
      rw [at_n hn] at t1 t2
      have A14 : A (100 + 16 * n + 14) = -1 := by rw [← eA, upd_n _ _ (by omega), upd_s]
      have j325 : r1 325 = ri 325 := (fj.2.2.1 325 (by decide)).trans (by rw [← eR]; rfl)
      show (c < (va_up I 65 (I 65 + 1) 65).toNatClampNeg → r1 325 c = va_up si 384 A 384 (100 + 16 * c + 14) ∧ (-1 ≤ (va_up si 384 A 384 (100 + 16 * c + 14)).toInt ∧ (va_up si 384 A 384 (100 + 16 * c + 14)).toInt ≤ 39)) ∧ ((va_up I 65 (I 65 + 1) 65).toNatClampNeg ≤ c → r1 325 c = -1)
      rw [va_up_self, va_up_self, z1, j325]
      refine ⟨fun y => ?_, fun y => t2 (by omega)⟩
      by_cases e : c = n
      · have t3 := t2 (by omega)
        rw [e] at t3
        rw [e, A14, t3]
        exact ⟨rfl, by decide, by decide⟩
      · rw [oA _ (by omega) (by omega) (by omega)]
        exact t1 (by omega)
  · have d1 : ¬ (I 65).toInt < (40 : Int32).toInt := fun y => q7 (Int32.lt_iff_toInt_lt.mpr y)
    have q8 : I 65 = 40 := Int32.toInt_inj.mp (by omega)
    simp only [if_neg q6, if_neg q7, if_pos q8]
    exact no _ _
end PK14
/-! ===== pure: Long.bitCount of the JDK; THE COUNCIL, both sides (behind pk14) ===== -/
section PK15
def q8 (L H : Nat) : Nat := L + 4294967296 * H
end PK15
/-! ===== pure: what a copy leaves of a country besides SEAS and LAND; AREA asked (behind pk14) ===== -/
section PK17
variable {nI : Nat → Int32} {nJ : Nat → Int64} {nR : Nat → Nat → Int32} {nL : Nat → Nat → Int64} {nQ : Nat → Nat → Option Nat}
variable {I : Nat → Int32} {J : Nat → Int64} {ri : Nat → Nat → Int32} {rj : Nat → Nat → Int64} {rq : Nat → Nat → Option Nat}
variable {U : Nat → Int32} {V : Nat → Int64} {si : Nat → Nat → Int32} {sj : Nat → Nat → Int64} {sq : Nat → Nat → Option Nat}
/-- how many of a row count -/
def lnw (t : Nat) : Nat := if t = 11 then 5 else 40
theorem cpyl_v {f g : Nat → Int64} {n j : Nat} (h : j < n) : va_cpy f g 0 0 n j = f j := by
  unfold va_cpy
  rw [if_pos ⟨Nat.zero_le _, by omega⟩, show 0 + (j - 0) = j from by omega]
theorem cp7w : ∃ (I1 : Nat → Int32) (r1 : Nat → Nat → Int32), g_X7_copyFrom nI nR I J ri rj rq = (I1, J, r1, rj, rq) ∧ (∀ f, f ∈ [237, 238] → I1 f = nI f) ∧ (∀ f, f ∉ [224, 234, 235, 236, 237, 238] → I1 f = I f) ∧ ∀ t, t ∉ [225, 226, 227, 228, 229, 230, 231, 232, 233] → r1 t = ri t := by
  rw [g_X7_copyFrom_e]
  simp only [↓ap1_n]
  refine ⟨_, _, rfl, fun f hf => ?_, fun f hf => ?_, fun t ht => ?_⟩
  · simp only [List.mem_cons, List.not_mem_nil, or_false] at hf
    rcases hf with e | e <;> subst e <;> simp [va_up]
  · simp only [List.mem_cons, List.not_mem_nil, or_false, not_or] at hf
    simp [va_up, hf]
  · simp only [List.mem_cons, List.not_mem_nil, or_false, not_or] at ht
    simp [va_up, ht]
theorem cp2w : ∃ (I1 : Nat → Int32) (J1 : Nat → Int64) (r1 : Nat → Nat → Int32) (l1 : Nat → Nat → Int64), g_X2_copyFrom nI nJ nR nL I J ri rj rq = (I1, J1, r1, l1, rq) ∧ I1 65 = nI 65 ∧ (∀ f, f ∉ [64, 65, 66] → I1 f = I f) ∧ J1 67 = nJ 67 ∧ (∀ t, t ∈ [71, 72, 77] → ∀ j, j < 40 → r1 t j = nR t j) ∧ (∀ t, t ∉ [69, 70, 71, 72, 73, 74, 75, 76, 77, 79, 80, 288, 289, 290] → r1 t = ri t) ∧ ∀ j, j < 600 → l1 68 j = nL 68 j := by
  have z0 : (0 : Int32).toNatClampNeg = 0 := by decide
  have z6 : (600 : Int32).toNatClampNeg = 600 := by decide
  rw [g_X2_copyFrom_e]
  simp only [↓ap1_n]
  rw [g_X9_copyFrom_e]
  simp only [↓ap1_n]
  rw [bnV_mk]
  refine ⟨_, _, _, _, rfl, ?_, fun f hf => ?_, va_up_self _ _ _, fun t ht j hj => ?_, fun t ht => ?_, fun j hj => ?_⟩
  · simp [va_up]
  · simp only [List.mem_cons, List.not_mem_nil, or_false, not_or] at hf
    simp [va_up, hf]
  · simp only [List.mem_cons, List.not_mem_nil, or_false] at ht
    rcases ht with e | e | e <;> subst e <;> simp [va_up, cpy_v hj]
  · simp only [List.mem_cons, List.not_mem_nil, or_false, not_or] at ht
    simp [va_up, ht]
  · rw [va_up_self, z0, z6]
    exact cpyl_v hj
theorem cp0w : ∃ (I1 : Nat → Int32) (r1 : Nat → Nat → Int32), g_X0_copyFrom nI nR I J ri rj rq = (I1, J, r1, rj, rq) ∧ (∀ f, f ∈ [0, 10] → I1 f = nI f) ∧ (∀ f, f ∉ [0, 10] → I1 f = I f) ∧ (∀ t, t ∈ [1, 2, 3, 4, 5, 9] → ∀ j, j < 40 → r1 t j = nR t j) ∧ (∀ j, j < 5 → r1 11 j = nR 11 j) ∧ ∀ t, t ∉ [1, 2, 3, 4, 5, 6, 7, 8, 9, 11] → r1 t = ri t := by
  rw [g_X0_copyFrom_e]
  simp only [↓ap1_n]
  refine ⟨_, _, rfl, fun f hf => ?_, fun f hf => ?_, fun t ht j hj => ?_, fun j hj => ?_, fun t ht => ?_⟩
  · simp only [List.mem_cons, List.not_mem_nil, or_false] at hf
    rcases hf with e | e <;> subst e <;> simp [va_up]
  · simp only [List.mem_cons, List.not_mem_nil, or_false, not_or] at hf
    simp [va_up, hf]
  · simp only [List.mem_cons, List.not_mem_nil, or_false] at ht
    rcases ht with e | e | e | e | e | e <;> subst e <;> simp [va_up, cpy_v hj]
  · simp [va_up, cpy_v hj]
  · simp only [List.mem_cons, List.not_mem_nil, or_false, not_or] at ht
    simp [va_up, ht]
/-- what a copy leaves -/
def QW (nI : Nat → Int32) (nJ : Nat → Int64) (nR : Nat → Nat → Int32) (nL : Nat → Nat → Int64) (b : vM) : Prop := (∀ f, f ∈ [65, 320, 237, 238, 321, 322, 323, 324, 0, 10] → b.1 f = nI f) ∧ b.2.1 67 = nJ 67 ∧ (∀ t, t ∈ [1, 2, 3, 4, 5, 9, 11, 71, 72, 77, 325] → ∀ j, j < lnw t → b.2.2.1 t j = nR t j) ∧ ∀ j, j < 600 → b.2.2.2.1 68 j = nL 68 j
theorem copyFrom_w : QW nI nJ nR nL (g_X10_copyFrom nI nJ nR nL nQ I J ri rj rq) := by
  rw [g_X10_copyFrom_e]
  simp only [↓ap1_n]
  generalize hI0 : va_up (va_up (va_up (va_up (va_up I 320 (nI 320)) 321 (nI 321)) 322 (nI 322)) 323 (nI 323)) 324 (nI 324) = I0
  generalize hr0 : va_up ri 325 (va_cpy (nR 325) (ri 325) 0 0 40) = r0
  have h32 : ∀ f, f ∈ [320, 321, 322, 323, 324] → I0 f = nI f := fun f hf => by
    rw [← hI0]
    simp only [List.mem_cons, List.not_mem_nil, or_false] at hf
    rcases hf with e | e | e | e | e <;> subst e <;> simp [va_up]
  have h325 : ∀ j, j < 40 → r0 325 j = nR 325 j := fun j hj => by
    rw [← hr0, va_up_self]
    exact cpy_v hj
  obtain ⟨I7, r7, e7, a7, b7, f7⟩ := cp7w (nI := nI) (nR := nR) (I := I0) (J := J) (ri := r0) (rj := rj) (rq := rq)
  rw [e7, bnV_mk]
  obtain ⟨I2, J2, r2, l2, e2, a2, b2, c2, d2, f2, g2⟩ := cp2w (nI := nI) (nJ := nJ) (nR := nR) (nL := nL) (I := I7) (J := J) (ri := r7) (rj := rj) (rq := rq)
  rw [e2, bnV_mk]
  obtain ⟨Ia, ra, ea, aa, ba, ca, da, fa⟩ := cp0w (nI := nI) (nR := nR) (I := I2) (J := J2) (ri := r2) (rj := l2) (rq := rq)
  rw [ea, bnV_mk]
  refine bV_of g_X3_copyFrom_f (fun Ib _ rb _ _ h3 => ?_)
  refine bV_of g_X1_copyFrom_f (fun Ic _ rc lc _ h4 => ?_)
  have DI : ∀ f, f ∈ [65, 320, 237, 238, 321, 322, 323, 324, 0, 10] → f ∉ w_X3_copyFrom.1 ∧ f ∉ w_X1_copyFrom.1 := by decide
  have DR : ∀ t, t ∈ [1, 2, 3, 4, 5, 9, 11, 71, 72, 77, 325] → t ∉ w_X3_copyFrom.2.2.1 ∧ t ∉ w_X1_copyFrom.2.2.1 := by decide
  have gI : ∀ f, f ∈ [65, 320, 237, 238, 321, 322, 323, 324, 0, 10] → Ic f = Ia f := fun f hf => by
    have x2 : Ib f = Ia f := h3.1 f (DI f hf).1
    have x3 : Ic f = Ib f := h4.1 f (DI f hf).2
    rw [x3, x2]
  have gR : ∀ t, t ∈ [1, 2, 3, 4, 5, 9, 11, 71, 72, 77, 325] → rc t = ra t := fun t ht => by
    have x2 : rb t = ra t := h3.2.2.1 t (DR t ht).1
    have x3 : rc t = rb t := h4.2.2.1 t (DR t ht).2
    rw [x3, x2]
  have gL : lc 68 = l2 68 := h4.2.2.2.1 68 (by decide)
  refine ⟨fun f hf => ?_, c2, fun t ht j hj => ?_, fun j hj => ?_⟩
  · show Ic f = nI f
    rw [gI f hf]
    simp only [List.mem_cons, List.not_mem_nil, or_false] at hf
    rcases hf with e | e | e | e | e | e | e | e | e | e <;> subst e
    · rw [ba 65 (by decide)]; exact a2
    · rw [ba 320 (by decide), b2 320 (by decide), b7 320 (by decide)]; exact h32 320 (by decide)
    · rw [ba 237 (by decide), b2 237 (by decide)]; exact a7 237 (by decide)
    · rw [ba 238 (by decide), b2 238 (by decide)]; exact a7 238 (by decide)
    · rw [ba 321 (by decide), b2 321 (by decide), b7 321 (by decide)]; exact h32 321 (by decide)
    · rw [ba 322 (by decide), b2 322 (by decide), b7 322 (by decide)]; exact h32 322 (by decide)
    · rw [ba 323 (by decide), b2 323 (by decide), b7 323 (by decide)]; exact h32 323 (by decide)
    · rw [ba 324 (by decide), b2 324 (by decide), b7 324 (by decide)]; exact h32 324 (by decide)
    · exact aa 0 (by decide)
    · exact aa 10 (by decide)
  · show rc t j = nR t j
    rw [gR t ht]
    have l40 : ∀ k, k ≠ 11 → j < lnw k → j < 40 := fun k hk h => by
      unfold lnw at h
      rw [if_neg hk] at h
      exact h
    simp only [List.mem_cons, List.not_mem_nil, or_false] at ht
    rcases ht with e | e | e | e | e | e | e | e | e | e | e <;> subst e
    · exact ca 1 (by decide) j (l40 1 (by decide) hj)
    · exact ca 2 (by decide) j (l40 2 (by decide) hj)
    · exact ca 3 (by decide) j (l40 3 (by decide) hj)
    · exact ca 4 (by decide) j (l40 4 (by decide) hj)
    · exact ca 5 (by decide) j (l40 5 (by decide) hj)
    · exact ca 9 (by decide) j (l40 9 (by decide) hj)
    · exact da j hj
    · rw [fa 71 (by decide)]; exact d2 71 (by decide) j (l40 71 (by decide) hj)
    · rw [fa 72 (by decide)]; exact d2 72 (by decide) j (l40 72 (by decide) hj)
    · rw [fa 77 (by decide)]; exact d2 77 (by decide) j (l40 77 (by decide) hj)
    · rw [fa 325 (by decide), f2 325 (by decide), f7 325 (by decide)]; exact h325 j (l40 325 (by decide) hj)
  · show lc 68 j = nL 68 j
    rw [gL]
    exact g2 j hj
theorem image_w {r : Int32} {I1 : Nat → Int32} {J1 : Nat → Int64} {r1 : Nat → Nat → Int32} {l1 : Nat → Nat → Int64} {q1 : Nat → Nat → Option Nat} (e : g_X11_image nI nJ nR nL nQ I J ri rj rq = (r, I1, J1, r1, l1, q1)) : QW nI nJ nR nL (I1, J1, r1, l1, q1) := by
  have h : QW nI nJ nR nL (g_X10_copyFrom nI nJ nR nL nQ I J ri rj rq) := copyFrom_w
  rw [g_X11_image_e] at e
  generalize g_X10_copyFrom nI nJ nR nL nQ I J ri rj rq = p at h e
  obtain ⟨a, b, c, d, f⟩ := p
  have e2 : ((nI 320, a, b, c, d, f) : Int32 × vM) = (r, I1, J1, r1, l1, q1) := e
  exact (Prod.mk.inj e2).2 ▸ h
theorem back_w {r : Int32} {I1 : Nat → Int32} {J1 : Nat → Int64} {r1 : Nat → Nat → Int32} {l1 : Nat → Nat → Int64} {q1 : Nat → Nat → Option Nat} (e : g_X11_back nI nJ nR nL nQ I J ri rj rq = (r, I1, J1, r1, l1, q1)) : QW nI nJ nR nL (I1, J1, r1, l1, q1) := by
  have h : QW nI nJ nR nL (g_X10_copyFrom nI nJ nR nL nQ I J ri rj rq) := copyFrom_w
  rw [g_X11_back_e] at e
  generalize g_X10_copyFrom nI nJ nR nL nQ I J ri rj rq = p at h e
  obtain ⟨a, b, c, d, f⟩ := p
  have e2 : ((a 320, a, b, c, d, f) : Int32 × vM) = (r, I1, J1, r1, l1, q1) := e
  exact (Prod.mk.inj e2).2 ▸ h
/-! ===== a relation that hangs on some fields, rows and cells alone ===== -/
def BND (I : Nat → Int32) : Prop := (I 320).toNatClampNeg ≤ 600 ∧ (I 65).toNatClampNeg ≤ 40
theorem bnd_of {A : Nat → Int32} (h : RSL I ri A) : BND I := by
  have z1 := clampE (I 320)
  have z2 := clampE (I 65)
  have b1 := h.1.1
  have b2 := h.1.2.1
  exact ⟨by omega, by omega⟩
def DEP (fs ts zs : List Nat) (P : (Nat → Int32) → (Nat → Int64) → (Nat → Nat → Int32) → (Nat → Nat → Int64) → (Nat → Int32) → Prop) : Prop := ∀ (I : Nat → Int32) (J : Nat → Int64) (ri : Nat → Nat → Int32) (rj : Nat → Nat → Int64) (A I1 : Nat → Int32) (J1 : Nat → Int64) (r1 : Nat → Nat → Int32) (l1 : Nat → Nat → Int64) (A1 : Nat → Int32), BND I → P I J ri rj A → (∀ f, f ∈ fs → I1 f = I f) → J1 67 = J 67 → (∀ t, t ∈ ts → ∀ j, j < lnw t → r1 t j = ri t j) → (∀ j, j < 600 → l1 68 j = rj 68 j) → (∀ j, zn j ∈ zs → A1 j = A j) → P I1 J1 r1 l1 A1
theorem lnw_40 {t j : Nat} (h : t ≠ 11) (hj : j < 40) : j < lnw t := by
  unfold lnw
  rw [if_neg h]
  exact hj
theorem zn_80 {l : Nat} (h : l < 5) : zn (80 + l) = 200 := zn_LOT1 ⟨by omega, by omega⟩
theorem zn_rk {i : Nat} (h1 : 2520 ≤ i) (h2 : i < 3720) : zn i ∈ [800, 801] := by
  have e : zn i = 800 + (i - 2520) % 2 := by
    unfold zn
    rw [if_neg (by omega), if_neg (by omega), if_neg (by omega), if_neg (by omega), if_neg (by omega), if_neg (by omega), if_neg (by omega), if_neg (by omega), if_neg (by omega), if_neg (by omega), if_pos (by omega)]
  rcases (show (i - 2520) % 2 = 0 ∨ (i - 2520) % 2 = 1 by omega) with q | q <;> rw [e, q] <;> decide
theorem dAR : DEP [65, 320, 237, 324] [71, 72] [0, 16, 18, 302, 303, 800, 801] (fun I _ ri rj A => ARH (I 320).toNatClampNeg I ri rj A ∧ ARL I A) := fun I J ri rj A I1 J1 r1 l1 A1 hb h hf _ ht hl hz => by
  refine ⟨?_, ARL_cg h.2 (hf 324 (by decide)) (hz 0 (by decide)) (hz 18 (by decide))⟩
  rw [hf 320 (by decide)]
  refine ARH_cg h.1 (hf 237 (by decide)) (hf 65 (by decide)) (fun c hc => ⟨ht 71 (by decide) c (lnw_40 (by decide) hc), ht 72 (by decide) c (lnw_40 (by decide) hc)⟩) (fun f hf6 c _ => by rw [hl f hf6]) hb.1 hb.2 (hz 16 (by decide)) (fun c k hc hk => hz _ ?_) (fun i h1 h2 => hz i ?_)
  · rw [zn_c hc ((by decide : ∀ k, k ∈ [2, 3] → k < 16) k hk)]
    exact (by decide : ∀ k, k ∈ [2, 3] → 300 + k ∈ [0, 16, 18, 302, 303, 800, 801]) k hk
  · exact (by decide : ∀ z, z ∈ [800, 801] → z ∈ [0, 16, 18, 302, 303, 800, 801]) _ (zn_rk h1 h2)
theorem dFU : DEP [238, 321, 323] [] [8, 12, 17] (fun I _ _ _ A => FUR I A) := fun I J ri rj A I1 J1 r1 l1 A1 _ h hf _ _ _ hz => FUR_cg h hf (fun i hi => hz i ((by decide : ∀ i, i ∈ [8, 12, 17] → zn i ∈ [8, 12, 17]) i hi))
theorem dFK : DEP [0] [1, 2, 3, 4, 5, 9] [5, 400, 401, 402, 403, 404, 408] (fun I _ ri _ A => FLK I ri A) := fun I J ri rj A I1 J1 r1 l1 A1 _ h hf _ ht _ hz => FLK_cg h (hf 0 (by decide)) (fun t h1 p hp => ht t h1 p (lnw_40 ((by decide : ∀ t, t ∈ [1, 2, 3, 4, 5, 9] → t ≠ 11) t h1) hp)) (hz 5 (by decide)) (fun p k hp hk => hz _ (by
  rw [zn_PERSON (i := 740 + 12 * p + k) (c := p) (k := k) rfl hp ((by decide : ∀ k, k ∈ [0, 1, 2, 3, 4, 8] → k < 12) k hk)]
  exact (by decide : ∀ k, k ∈ [0, 1, 2, 3, 4, 8] → 400 + k ∈ [5, 400, 401, 402, 403, 404, 408]) k hk))
theorem dLT : DEP [10] [11] [4, 200] (fun I _ ri _ A => LTS I ri A) := fun I J ri rj A I1 J1 r1 l1 A1 _ h hf _ ht _ hz => LTS_cg h (hf 10 (by decide)) (fun l hl => ht 11 (by decide) l (by unfold lnw; rw [if_pos rfl]; exact hl)) (hz 4 (by decide)) (fun l hl => hz _ (by rw [zn_80 hl]; decide))
theorem dHL : DEP [65] [325] [314] (fun I _ ri _ A => HLD I ri A) := fun I J ri rj A I1 J1 r1 l1 A1 _ h hf _ ht _ hz => HLD_cg h (hf 65 (by decide)) (fun c hc => ht 325 (by decide) c (lnw_40 (by decide) hc)) (fun c hc => hz _ (by rw [zn_c hc (by decide)]; decide))
theorem dDR : DEP [65] [77] [0, 311, 312] (fun I J ri _ A => DRU I J ri A) := fun I J ri rj A I1 J1 r1 l1 A1 _ h hf hJ ht _ hz => DRU_cg h (hf 65 (by decide)) (fun c _ => by rw [hJ]) (fun c hc => ht 77 (by decide) c (lnw_40 (by decide) hc)) (hz 0 (by decide)) (fun c k hc hk => hz _ (by
  rw [zn_c hc ((by decide : ∀ k, k ∈ [11, 12] → k < 16) k hk)]
  exact (by decide : ∀ k, k ∈ [11, 12] → 300 + k ∈ [0, 311, 312]) k hk))
theorem dBT : DEP [322] [] [11] (fun I _ _ _ A => I 322 = A 11) := fun I J ri rj A I1 J1 r1 l1 A1 _ h hf _ _ _ hz => by
  show I1 322 = A1 11
  rw [hf 322 (by decide), hz 11 (by decide)]
  exact h
abbrev wfl : List Nat := [65, 320, 237, 238, 321, 322, 323, 324, 0, 10]
abbrev wtl : List Nat := [1, 2, 3, 4, 5, 9, 11, 71, 72, 77, 325]
abbrev wzl : List Nat := [0, 4, 5, 8, 11, 12, 16, 17, 18, 200, 302, 303, 311, 312, 314, 400, 401, 402, 403, 404, 408, 800, 801]
theorem dWR : DEP wfl wtl wzl WRA := fun I J ri rj A I1 J1 r1 l1 A1 hb h hf hJ ht hl hz => by
  obtain ⟨w1, w2, ⟨w3, w4, w5⟩, w6, w7⟩ := h
  refine ⟨dAR I J ri rj A I1 J1 r1 l1 A1 hb w1 (fun f x => hf f ?_) hJ (fun t x => ht t ?_) hl (fun j x => hz j ?_), dFU I J ri rj A I1 J1 r1 l1 A1 hb w2 (fun f x => hf f ?_) hJ (fun t x => ht t ?_) hl (fun j x => hz j ?_), ⟨dFK I J ri rj A I1 J1 r1 l1 A1 hb w3 (fun f x => hf f ?_) hJ (fun t x => ht t ?_) hl (fun j x => hz j ?_), dLT I J ri rj A I1 J1 r1 l1 A1 hb w4 (fun f x => hf f ?_) hJ (fun t x => ht t ?_) hl (fun j x => hz j ?_), dHL I J ri rj A I1 J1 r1 l1 A1 hb w5 (fun f x => hf f ?_) hJ (fun t x => ht t ?_) hl (fun j x => hz j ?_)⟩, dDR I J ri rj A I1 J1 r1 l1 A1 hb w6 (fun f x => hf f ?_) hJ (fun t x => ht t ?_) hl (fun j x => hz j ?_), dBT I J ri rj A I1 J1 r1 l1 A1 hb w7 (fun f x => hf f ?_) hJ (fun t x => ht t ?_) hl (fun j x => hz j ?_)⟩
  · exact (by decide : ∀ f, f ∈ [65, 320, 237, 324] → f ∈ wfl) f x
  · exact (by decide : ∀ t, t ∈ [71, 72] → t ∈ wtl) t x
  · exact (by decide : ∀ z, z ∈ [0, 16, 18, 302, 303, 800, 801] → z ∈ wzl) _ x
  · exact (by decide : ∀ f, f ∈ [238, 321, 323] → f ∈ wfl) f x
  · cases x
  · exact (by decide : ∀ z, z ∈ [8, 12, 17] → z ∈ wzl) _ x
  · exact (by decide : ∀ f, f ∈ [0] → f ∈ wfl) f x
  · exact (by decide : ∀ t, t ∈ [1, 2, 3, 4, 5, 9] → t ∈ wtl) t x
  · exact (by decide : ∀ z, z ∈ [5, 400, 401, 402, 403, 404, 408] → z ∈ wzl) _ x
  · exact (by decide : ∀ f, f ∈ [10] → f ∈ wfl) f x
  · exact (by decide : ∀ t, t ∈ [11] → t ∈ wtl) t x
  · exact (by decide : ∀ z, z ∈ [4, 200] → z ∈ wzl) _ x
  · exact (by decide : ∀ f, f ∈ [65] → f ∈ wfl) f x
  · exact (by decide : ∀ t, t ∈ [325] → t ∈ wtl) t x
  · exact (by decide : ∀ z, z ∈ [314] → z ∈ wzl) _ x
  · exact (by decide : ∀ f, f ∈ [65] → f ∈ wfl) f x
  · exact (by decide : ∀ t, t ∈ [77] → t ∈ wtl) t x
  · exact (by decide : ∀ z, z ∈ [0, 311, 312] → z ∈ wzl) _ x
  · exact (by decide : ∀ f, f ∈ [322] → f ∈ wfl) f x
  · cases x
  · exact (by decide : ∀ z, z ∈ [11] → z ∈ wzl) _ x
end PK17
/-! ===== pure: COUNCIL, both sides (behind pk15) ===== -/
section PK18
variable {I : Nat → Int32} {J : Nat → Int64} {ri : Nat → Nat → Int32} {rj : Nat → Nat → Int64} {rq : Nat → Nat → Option Nat}
variable {U : Nat → Int32} {V : Nat → Int64} {si : Nat → Nat → Int32} {sj : Nat → Nat → Int64} {sq : Nat → Nat → Option Nat}
variable {tI : Nat → Nat → Int32} {tR : Nat → Nat → Nat → Int32}
/-! counting -/
/-! the reference's count -/
section CO
variable {a0 : Int64} {A : Nat → Int32} {B1 B3 : Nat → Bool}
end CO
end PK18
/-! ===== pure: CANT, both sides (behind pk17; mkpk19.py writes it) ===== -/
section PK19
variable {nI : Nat → Int32} {nJ : Nat → Int64} {nR : Nat → Nat → Int32} {nL : Nat → Nat → Int64} {nQ : Nat → Nat → Option Nat}
variable {I : Nat → Int32} {J : Nat → Int64} {ri : Nat → Nat → Int32} {rj : Nat → Nat → Int64} {rq : Nat → Nat → Option Nat}
variable {U : Nat → Int32} {V : Nat → Int64} {si : Nat → Nat → Int32} {sj : Nat → Nat → Int64} {sq : Nat → Nat → Option Nat}
variable {tI : Nat → Nat → Int32} {tR : Nat → Nat → Nat → Int32}
/-- what THE FUND of a trial hangs on -/
def FUT (I : Nat → Int32) (ri : Nat → Nat → Int32) (A : Nat → Int32) : Prop := I 0 = A 5 ∧ I 238 = A 17 ∧ I 321 = A 8 ∧ (∀ p, p < (I 0).toNatClampNeg → (ri 5 p = 200 ↔ A (740 + 12 * p + 3) = 200) ∧ ri 4 p = A (740 + 12 * p + 4)) ∧ ∀ c, c < (I 65).toNatClampNeg → ri 75 c = A (100 + 16 * c + 6)
set_option maxHeartbeats 1000000 in
theorem reckon_t {m : Int32} {n : Nat} (hT : TXS I rq tI tR (si 384)) (hF : FCS I ri (si 384)) (h407 : U 407 = 0) (em : I 320 = m) (hm : m.toInt = (n : Int)) (hm6 : n < 600) (e65 : I 65 = si 384 2) (h65 : 0 ≤ (si 384 2).toInt ∧ (si 384 2).toInt ≤ 40) (h5 : 0 ≤ (si 384 5).toInt ∧ (si 384 5).toInt ≤ 40) (hA : ARH (n + 1) I ri rj (si 384)) : ∃ (I1 : Nat → Int32) (r1 : Nat → Nat → Int32) (B U1 : Nat → Int32), g_X10_reckon tI tR I J ri rj rq = (I1, J, r1, rj, rq) ∧ g_X12_fundGoes m U V si sj sq = (U1, V, va_up si 384 B, sj, sq) ∧ (∀ f, f ≠ 321 → f ≠ 323 → f ≠ 324 → I1 f = I f) ∧ (∀ t, t ≠ 82 → t ≠ 83 → r1 t = ri t) ∧ I1 324 = B 18 ∧ (∀ f, f ≠ 410 → U1 f = U f) ∧ (∀ i, i ≠ 8 → i ≠ 12 → i ≠ 18 → B i = si 384 i) ∧ (FUT I ri (si 384) → I1 321 = B 8 ∧ (I 323 = -1 → I1 323 = (if B 8 < 0 then m else -1)) ∧ U1 410 = (if B 8 < 0 then 1 else 0)) := by
  obtain ⟨a1, a2, a3, a4⟩ := hA
  have k0 : (0 : Int32).toInt = 0 := by decide
  have km : (-1 : Int32).toInt = -1 := by decide
  have k6 : (600 : Int32).toInt = 600 := by decide
  have z65 := clampE (I 65)
  obtain ⟨N, hN⟩ : ∃ N : Nat, (si 384 2).toInt = (N : Int) := ⟨(si 384 2).toInt.toNat, by omega⟩
  have cN : (I 65).toNatClampNeg = N := by rw [e65]; exact at_n hN
  obtain ⟨R, hR⟩ : ∃ R : Nat, (si 384 16).toInt = (R : Int) := ⟨(si 384 16).toInt.toNat, by omega⟩
  obtain ⟨B, Bs, ar, lv, F, U1, b1, b2, b3, b4, b5, b6, b7, b8, b9, b10, b11⟩ := fundGoes_v (I := U) (J := V) (ri := si) (rj := sj) (rq := sq) (m := m) h65.1 h65.2 h5.1 h5.2 h407
  have hT1 : TXS I rq tI tR (va_up si 384 Bs 384) := by rw [va_up_self]; exact TXS_A hT (fun i i1 _ _ => b1 i i1)
  have hF1 : FCS I ri (va_up si 384 Bs 384) := by rw [va_up_self]; exact FCS_A hF (fun i i1 _ _ => b1 i i1)
  obtain ⟨y, f1, f2⟩ := fx_m (I := I) (J := J) (ri := ri) (rj := rj) (rq := rq) (U := va_up U 410 0) (V := V) (si := va_up si 384 Bs) (sj := sj) (sq := sq) (tI := tI) (tR := tR) (mo := m) hT1 hF1
  obtain ⟨s, hs, hs2⟩ := mth_r (y := y) hm
  obtain ⟨v, r', g1, g2, g3⟩ := area_v (I := I) (J := J) (rj := rj) (rq := rq) (U := va_up U 410 0) (V := V) (si := va_up si 384 Bs) (sj := sj) (sq := sq) (a0 := rj 68 s) (a1 := I 237) (x19 := mth m y) (R := R) (N := N) (m := s) (r := ri) (by rw [a1]; exact hR) (by omega) (by rw [va_up_self, b1 16 (by decide)]; exact hR) (by rw [e65]; exact hN) (by omega) (by rw [va_up_self, b1 2 (by decide)]; exact hN) hs (by omega) (fun c hc => by rw [va_up_self, b1 _ (by omega)]; exact (a3 c (by omega)).1) (fun c hc => by rw [va_up_self, b1 _ (by omega)]; exact (a3 c (by omega)).2.1) (fun c hc => by rw [va_up_self, b1 _ (by omega), b1 _ (by omega)]; exact (a3 c (by omega)).2.2) (fun c hc => by
    rw [a4 s (by omega) c (by rw [cN]; exact hc)]
    unfold rkA
    rw [va_up_self, b1 _ (by omega), b1 _ (by omega)])
  have ev : ar = v := by
    rw [f2, g3] at b2
    exact (Prod.mk.inj b2).1.symm
  subst ev
  -- LEAVE, behind AREA
  have hT2 : TXS (va_up I 324 ar) rq tI tR (va_up si 384 (upd Bs 18 ar) 384) := by
    rw [va_up_self]
    exact TXS_A (TXS_cg hT (va_up_ne _ _ (by decide)) (fun _ _ => rfl) (fun _ _ _ _ => ⟨rfl, fun _ _ => rfl⟩) (fun _ _ => rfl)) (fun i i1 _ i3 => (upd_n _ _ i3).trans (b1 i i1))
  have hF2 : FCS (va_up I 324 ar) r' (va_up si 384 (upd Bs 18 ar) 384) := by
    rw [va_up_self]
    exact FCS_A (FCS_cg hF (va_up_ne _ _ (by decide)) (fun t ht j _ => by
      have ht2 : t ≠ 82 ∧ t ≠ 83 := (by decide : ∀ t, t ∈ [99, 100, 101] → t ≠ 82 ∧ t ≠ 83) t ht
      rw [g2 t ht2.1 ht2.2]) rfl (fun _ _ _ => rfl) (Int.le_refl _)) (fun i i1 _ i3 => (upd_n _ _ i3).trans (b1 i i1))
  obtain ⟨l, l1, l2⟩ := lv_m (I := va_up I 324 ar) (J := J) (ri := r') (rj := rj) (rq := rq) (U := va_up U 410 0) (V := V) (si := va_up si 384 (upd Bs 18 ar)) (sj := sj) (sq := sq) (tI := tI) (tR := tR) (mo := m) hT2 hF2
  have el : lv = l := by
    rw [l2] at b3
    exact (Prod.mk.inj b3).1.symm
  subst el
  obtain ⟨w, w1, w2⟩ := countWalls_v (I := va_up I 324 ar) (J := J) (ri := r') (rj := rj) (rq := rq) (by rw [va_up_ne _ _ (show (65 : Nat) ≠ 324 by decide), e65]; exact h65.1) (by rw [va_up_ne _ _ (show (65 : Nat) ≠ 324 by decide), e65]; exact h65.2)
  -- what those ABROAD send, whatever it is
  have ps := fg_pure (g_X0_sendings_f (I := va_up I 324 ar) (J := J) (ri := r') (rj := rj) (rq := rq))
  generalize hsn : (g_X0_sendings (va_up I 324 ar) J r' rj rq).1 = sn at ps
  have red : g_X10_reckon tI tR I J ri rj rq = g_X10_reckon_K43 I J ri rj rq tI tR (mth m y) := by
    rw [g_X10_reckon_e]
    simp only [↓ap1_n]
    rw [em, if_pos (Int32.lt_iff_toInt_lt.mpr (by omega)), bn_n f1]
    unfold mth
    by_cases q : y < 0
    · rw [if_pos q, if_pos q, g_X10_reckon_K39_e]
    · rw [if_neg q, if_neg q]
      by_cases q2 : m ≤ y
      · rw [if_pos q2, if_pos q2, g_X10_reckon_K39_e]
      · rw [if_neg q2, if_neg q2]
  generalize hG : I 321 + (sn + lv * ar / 100 - I 238 * w) = G at *
  have i320 : va_up I 324 ar 320 = m := (va_up_ne _ _ (by decide)).trans em
  have red2 : g_X10_reckon_K43 I J ri rj rq tI tR (mth m y) = (if 0 ≤ G then (va_up (va_up I 324 ar) 321 G, J, r', rj, rq) else if I 323 = -1 then (va_up (va_up (va_up I 324 ar) 321 G) 323 m, J, r', rj, rq) else (va_up (va_up I 324 ar) 321 G, J, r', rj, rq)) := by
    rw [g_X10_reckon_K43_e]
    simp only [↓ap1_n]
    rw [at_n hs, bn_n g1]
    try simp only [va_up_self]
    rw [bn_n ps, i320, bn_n l1]
    try simp only [va_up_self]
    rw [bn_n w1]
    try simp only [va_up_self]
    rw [va_up_ne _ _ (show (321 : Nat) ≠ 324 by decide), va_up_ne _ _ (show (238 : Nat) ≠ 324 by decide), hG, va_up_ne _ _ (show (323 : Nat) ≠ 321 by decide), va_up_ne _ _ (show (323 : Nat) ≠ 324 by decide), va_up_ne _ _ (show (320 : Nat) ≠ 321 by decide), i320]
  rw [red, red2]
  have fund : FUT I ri (si 384) → G = B 8 := fun ⟨u0, u1, u2, u5, u6⟩ => by
    have s1 : sn = snC (r' 5) (r' 4) (I 0).toNatClampNeg := by
      have e0 : va_up I 324 ar 0 = I 0 := va_up_ne _ _ (by decide)
      have := sendings_v (I := va_up I 324 ar) (J := J) (ri := r') (rj := rj) (rq := rq) (by rw [e0, u0]; exact h5.1) (by rw [e0, u0]; exact h5.2)
      rw [← hsn, this, e0]
    have s2 : snC (r' 5) (r' 4) (I 0).toNatClampNeg = snC (plA (si 384)) (sdA (si 384)) (si 384 5).toNatClampNeg := by
      rw [u0]
      refine snC_cg _ (fun p hp => ?_)
      rw [g2 5 (by decide) (by decide), g2 4 (by decide) (by decide)]
      exact u5 p (by rw [u0]; exact hp)
    have s3 : I 238 * w = wlC (wlA (si 384)) (si 384 17) (si 384 2).toNatClampNeg := by
      rw [w2, va_up_ne _ _ (show (65 : Nat) ≠ 324 by decide), u1, g2 75 (by decide) (by decide), e65]
      exact wlC_cg _ (fun c hc => u6 c (by rw [e65]; exact hc))
    rw [b10, b7, ← hG, s1, s2, s3, u2]
    exact i_fu _ _ _ _
  by_cases q : 0 ≤ G
  · rw [if_pos q]
    refine ⟨_, _, B, U1, rfl, b4, fun f f1 _ f3 => by rw [va_up_ne _ _ f1, va_up_ne _ _ f3], g2, ?_, b5, b8, fun hU => ?_⟩
    · rw [va_up_ne _ _ (show (324 : Nat) ≠ 321 by decide), va_up_self]; exact b9.symm
    · have eg := fund hU
      have nq : ¬ F < 0 := fun z => by
        rw [← b10, ← eg] at z
        have q1 := Int32.le_iff_toInt_le.mp q
        have q2 := Int32.lt_iff_toInt_lt.mp z
        omega
      refine ⟨by rw [va_up_self]; exact eg, fun e => ?_, by rw [b6, b10]⟩
      rw [va_up_ne _ _ (show (323 : Nat) ≠ 321 by decide), va_up_ne _ _ (show (323 : Nat) ≠ 324 by decide), e, b10, if_neg nq]
  · rw [if_neg q]
    have q1 : G < 0 := Int32.not_le.mp q
    by_cases p : I 323 = -1
    · rw [if_pos p]
      refine ⟨_, _, B, U1, rfl, b4, fun f f1 f2 f3 => by rw [va_up_ne _ _ f2, va_up_ne _ _ f1, va_up_ne _ _ f3], g2, ?_, b5, b8, fun hU => ?_⟩
      · rw [va_up_ne _ _ (show (324 : Nat) ≠ 323 by decide), va_up_ne _ _ (show (324 : Nat) ≠ 321 by decide), va_up_self]; exact b9.symm
      · have eg := fund hU
        have nq : F < 0 := by rw [← b10, ← eg]; exact q1
        exact ⟨by rw [va_up_ne _ _ (show (321 : Nat) ≠ 323 by decide), va_up_self]; exact eg, fun _ => by rw [va_up_self, b10, if_pos nq], by rw [b6, b10]⟩
    · rw [if_neg p]
      refine ⟨_, _, B, U1, rfl, b4, fun f f1 _ f3 => by rw [va_up_ne _ _ f1, va_up_ne _ _ f3], g2, ?_, b5, b8, fun hU => ?_⟩
      · rw [va_up_ne _ _ (show (324 : Nat) ≠ 321 by decide), va_up_self]; exact b9.symm
      · have eg := fund hU
        exact ⟨by rw [va_up_self]; exact eg, fun e => absurd e p, by rw [b6, b10]⟩
/-- a trial of the class beside the reference's country -/
def TRC (n : Nat) (tI : Nat → Nat → Int32) (tR : Nat → Nat → Nat → Int32) (I : Nat → Int32) (ri : Nat → Nat → Int32) (rj : Nat → Nat → Int64) (rq : Nat → Nat → Option Nat) (A : Nat → Int32) : Prop := RSL I ri A ∧ TXS I rq tI tR A ∧ FCS I ri A ∧ ARH n I ri rj A ∧ FUT I ri A
set_option maxHeartbeats 1000000 in
theorem cant_s {a0 : Int32} {n : Nat} (h6 : (I 320).toInt < 600) (hn : (I 320).toInt = (n : Int)) (h407 : U 407 = 0) (hW : TRC n tI tR I ri rj rq (si 384)) (hst : ∀ p, p < 40 → ((g_X12_month a0 U V si sj sq).2.2.1 384 (740 + 12 * p + 3) = 200 ↔ si 384 (740 + 12 * p + 3) = 200)) : ∃ (I1 : Nat → Int32) (J1 : Nat → Int64) (r1 : Nat → Nat → Int32) (l1 : Nat → Nat → Int64) (I2 : Nat → Int32) (r2 : Nat → Nat → Int32), g_X10_nature a0 I J ri rj rq = (I1, J1, r1, l1, rq) ∧ g_X10_reckon tI tR I1 J1 r1 l1 rq = (I2, J1, r2, l1, rq) ∧ I2 320 = I 320 ∧ TRC (n + 1) tI tR (va_up I2 320 (I2 320 + 1)) r2 l1 rq ((g_X12_month a0 U V si sj sq).2.2.1 384) ∧ (I 323 = -1 → I2 323 = (if (g_X12_month a0 U V si sj sq).2.2.1 384 8 < 0 then I 320 else -1)) ∧ (g_X12_month a0 U V si sj sq).1 410 = (if (g_X12_month a0 U V si sj sq).2.2.1 384 8 < 0 then 1 else 0) := by
  obtain ⟨h, hT, hF, hA, hU⟩ := hW
  have h' := h
  obtain ⟨S, eM, So, Sf, Sd, Sk, Sr⟩ := month_q (U := U) (V := V) (sj := sj) (sq := sq) (a0 := a0) h h6
  obtain ⟨I1, J1, r1, l1, en, n1, n73, n74, nr, nl, nj, nd, ⟨k, nk1, nk2⟩, nu⟩ := nature_w (I := I) (J := J) (ri := ri) (rj := rj) (rq := rq) (a0 := a0) h.1 h6
  obtain ⟨⟨⟨m0, m6⟩, ⟨c0, c4⟩, ⟨l0, l2⟩⟩, ⟨⟨r0, r5⟩, ⟨p0, p4⟩, q4⟩, ⟨e0, e1, e2, e3⟩, _, _, hld, _⟩ := h
  have cn : (I 320).toNatClampNeg = n := at_n hn
  have z65 := clampE (I 65)
  have hn6 : n < 600 := by omega
  obtain ⟨a1, a2, a3, a4⟩ := hA
  have s20 : ∀ i, i < 20 → i ≠ 9 → S 384 i = si 384 i := fun i i1 i2 => Sf i i2 (Or.inl (by omega)) (fun c k _ _ => by omega) (fun p k _ _ => by omega)
  have sCell : ∀ c k, c < 40 → k ∈ [0, 1, 2, 3, 6, 14] → S 384 (100 + 16 * c + k) = si 384 (100 + 16 * c + k) := fun c k hc hk => by
    simp only [List.mem_cons, List.not_mem_nil, or_false] at hk
    exact Sf _ (by omega) (Or.inl (by omega)) (fun c2 k2 _ hk2 => by simp only [List.mem_cons, List.not_mem_nil, or_false] at hk2; omega) (fun p k2 _ hk2 => by simp only [List.mem_cons, List.not_mem_nil, or_false] at hk2; omega)
  have sPer : ∀ p k, p < 40 → k ∈ [0, 1, 2, 3, 4, 7, 8] → S 384 (740 + 12 * p + k) = si 384 (740 + 12 * p + k) := fun p k hp hk => by
    simp only [List.mem_cons, List.not_mem_nil, or_false] at hk
    exact Sf _ (by omega) (Or.inl (by omega)) (fun c2 k2 _ hk2 => by simp only [List.mem_cons, List.not_mem_nil, or_false] at hk2; omega) (fun p2 k2 _ hk2 => by simp only [List.mem_cons, List.not_mem_nil, or_false] at hk2; omega)
  have sTx : ∀ j, zn j ∈ lzt → S 384 j = si 384 j := fun j hj => by
    rcases lz_x hj with q | q
    · rw [q]; exact s20 6 (by decide) (by decide)
    · exact Sf j (by omega) (Or.inr q) (fun c2 k2 _ hk2 => by simp only [List.mem_cons, List.not_mem_nil, or_false] at hk2; omega) (fun p2 k2 _ hk2 => by simp only [List.mem_cons, List.not_mem_nil, or_false] at hk2; omega)
  have sFc : ∀ i, 2220 ≤ i → i < 2340 → S 384 i = si 384 i := fun i i1 i2 => Sf i (by omega) (Or.inl (by omega)) (fun c2 k2 _ hk2 => by simp only [List.mem_cons, List.not_mem_nil, or_false] at hk2; omega) (fun p2 k2 _ hk2 => by simp only [List.mem_cons, List.not_mem_nil, or_false] at hk2; omega)
  have i65 : I1 65 = I 65 := n1 65 (by decide)
  have i320 : I1 320 = si 384 0 := (n1 320 (by decide)).trans e0
  have le68 : l1 68 = vp_updL (rj 68) n k := by rw [nk1, cn]
  have hTe : TXS I1 rq tI tR (S 384) := TXS_cg hT (n1 96 (by decide)) (fun _ _ => rfl) (fun _ _ _ _ => ⟨rfl, fun _ _ => rfl⟩) sTx
  have hFe : FCS I1 r1 (S 384) := FCS_cg hF (n1 98 (by decide)) (fun t ht j _ => by rw [nr t ((by decide : ∀ t, t ∈ [99, 100, 101] → t ∉ [73, 74, 76, 77, 81]) t ht)]) (s20 7 (by decide) (by decide)) sFc (by rw [s20 6 (by decide) (by decide)]; exact Int.le_refl _)
  have hAe : ARH (n + 1) I1 r1 l1 (S 384) := by
    refine ⟨?_, ?_, fun c hc => ?_, fun f hf c hc => ?_⟩
    · rw [n1 237 (by decide), s20 16 (by decide) (by decide)]; exact a1
    · rw [s20 16 (by decide) (by decide)]; exact a2
    · rw [nr 71 (by decide), nr 72 (by decide), sCell c 2 hc (by decide), sCell c 3 hc (by decide)]
      exact a3 c hc
    · rw [i65] at hc
      have c40 : c < 40 := by omega
      rw [le68]
      by_cases q : f = n
      · rw [q, vL_s, nk2 c (by omega)]
        have y := Sk c c40
        rw [cn] at y
        by_cases z : rockN a0 I ri c = true
        · rw [z, y.mpr z]
        · have z2 : rockN a0 I ri c = false := by simpa using z
          have z3 : rkA (S 384) n c = false := by
            cases z4 : rkA (S 384) n c with
            | true => exact absurd (y.mp z4) z
            | false => rfl
          rw [z2, z3]
      · rw [vL_n _ _ q, a4 f (by omega) c hc]
        unfold rkA
        rw [Sr _ (by omega) (by omega) (by rw [cn]; omega) (by rw [cn]; omega), Sr _ (by omega) (by omega) (by rw [cn]; omega) (by rw [cn]; omega)]
  have hUe : FUT I1 r1 (S 384) := by
    obtain ⟨u0, u1, u2, u5, u6⟩ := hU
    refine ⟨?_, ?_, ?_, fun p hp => ?_, fun c hc => ?_⟩
    · rw [n1 0 (by decide), s20 5 (by decide) (by decide)]; exact u0
    · rw [n1 238 (by decide), s20 17 (by decide) (by decide)]; exact u1
    · rw [n1 321 (by decide), s20 8 (by decide) (by decide)]; exact u2
    · rw [n1 0 (by decide)] at hp
      have zp := clampE (I 0)
      have p40 : p < 40 := by rw [u0] at zp hp; omega
      rw [nr 5 (by decide), nr 4 (by decide), sPer p 3 p40 (by decide), sPer p 4 p40 (by decide)]
      exact u5 p hp
    · rw [i65] at hc
      rw [nr 75 (by decide), sCell c 6 (by omega) (by decide)]
      exact u6 c hc
  obtain ⟨I2, r2, B, U1, x1, x2, x3, x4, x5, x6, x7, x8⟩ := reckon_t (I := I1) (J := J1) (ri := r1) (rj := l1) (rq := rq) (U := U) (V := V) (si := S) (sj := sj) (sq := sq) (m := si 384 0) (n := n) hTe hFe h407 i320 (by rw [← e0]; exact hn) hn6 (by rw [i65, e2, s20 2 (by decide) (by decide)]) (by rw [s20 2 (by decide) (by decide), ← e2]; exact ⟨c0, c4⟩) (by rw [s20 5 (by decide) (by decide)]; exact ⟨p0, p4⟩) hAe
  obtain ⟨w1, w2, w3⟩ := x8 hUe
  obtain ⟨U3, S3, L3, y1, y2, y3, y4⟩ := boatsGo_b (I := U1) (J := V) (ri := va_up S 384 B) (rj := sj) (rq := sq) (m := si 384 0) (by rw [va_up_self, x7 5 (by decide) (by decide) (by decide), s20 5 (by decide) (by decide)]; exact p4) (by rw [va_up_self, x7 4 (by decide) (by decide) (by decide), s20 4 (by decide) (by decide)]; exact q4)
  rw [va_up_self] at y4
  have eC : g_X12_month a0 U V si sj sq = (U3, V, va_up S3 384 (upd (S3 384) 0 (si 384 0 + 1)), L3, sq) := by rw [eM, x2, bnV_mk, y1, bnV_mk]
  have i2 : I2 320 = I 320 := (x3 320 (by decide) (by decide) (by decide)).trans (n1 320 (by decide))
  have hR : RSL (va_up I2 320 (I2 320 + 1)) r2 ((g_X12_month a0 U V si sj sq).2.2.1 384) := by
    obtain ⟨U4, s4, m4, f2, o2, z0, z4, z5, z12, zo, zk1⟩ := month_v (U := U) (V := V) (sj := sj) (sq := sq) (a0 := a0) h' h6
    rw [f2]
    refine RL_month (a0 := a0) h' h6 (fun f hf => ?_) ?_ ?_ ?_ (fun t ht => ?_) z0 z4 z5 zo
    · have d := (by decide : ∀ f, f ∈ [64, 65, 224, 234, 235, 236] → f ≠ 320 ∧ f ≠ 321 ∧ f ≠ 323 ∧ f ≠ 324 ∧ f ≠ 66) f hf
      rw [va_up_ne _ _ d.1, x3 f d.2.1 d.2.2.1 d.2.2.2.1]
      exact n1 f d.2.2.2.2
    · rw [va_up_self, i2]
    · rw [x4 73 (by decide) (by decide)]; exact n73
    · rw [x4 74 (by decide) (by decide)]; exact n74
    · have d := (by decide : ∀ t, t ∈ [69, 70, 75, 79, 225, 226, 227, 228, 229, 230, 231, 232] → t ≠ 82 ∧ t ≠ 83 ∧ t ∉ [73, 74, 76, 77, 81]) t ht
      rw [x4 t d.1 d.2.1]
      exact nr t d.2.2
  rw [eC] at hR hst ⊢
  have sB : ∀ i, i ≠ 0 → (∀ p k, p < 40 → k ∈ [3, 7] → i ≠ 740 + 12 * p + k) → va_up S3 384 (upd (S3 384) 0 (si 384 0 + 1)) 384 i = B i := fun i i1 i2 => by
    rw [va_up_self, upd_n _ _ i1]
    exact y4.1 i rfl (fun _ _ => rfl) i2
  have np : ∀ i, (i < 740 ∨ 1220 ≤ i) → ∀ p k, p < 40 → k ∈ [3, 7] → i ≠ 740 + 12 * p + k := fun i hi p k hp hk => by
    simp only [List.mem_cons, List.not_mem_nil, or_false] at hk
    omega
  have sS : ∀ i, i ≠ 0 → i ≠ 8 → i ≠ 12 → i ≠ 18 → (i < 740 ∨ 1220 ≤ i) → va_up S3 384 (upd (S3 384) 0 (si 384 0 + 1)) 384 i = S 384 i := fun i i1 i2 i3 i4 i5 => by
    rw [sB i i1 (np i i5)]
    exact x7 i i2 i3 i4
  have b8 : va_up S3 384 (upd (S3 384) 0 (si 384 0 + 1)) 384 8 = B 8 := sB 8 (by decide) (np 8 (Or.inl (by decide)))
  have f65 : va_up I2 320 (I2 320 + 1) 65 = I1 65 := (va_up_ne _ _ (by decide)).trans (x3 65 (by decide) (by decide) (by decide))
  have f0 : va_up I2 320 (I2 320 + 1) 0 = I1 0 := (va_up_ne _ _ (by decide)).trans (x3 0 (by decide) (by decide) (by decide))
  refine ⟨I1, J1, r1, l1, I2, r2, en, x1, i2, ⟨hR, ?_, ?_, ⟨?_, ?_, fun c hc => ?_, fun f hf c hc => ?_⟩, ⟨?_, ?_, ?_, fun p hp => ?_, fun c hc => ?_⟩⟩, fun e => ?_, ?_⟩
  · exact TXS_cg hTe ((va_up_ne _ _ (by decide)).trans (x3 96 (by decide) (by decide) (by decide))) (fun _ _ => rfl) (fun _ _ _ _ => ⟨rfl, fun _ _ => rfl⟩) (fun j hj => by
      rcases lz_x hj with q | q
      · rw [q]; exact sS 6 (by decide) (by decide) (by decide) (by decide) (Or.inl (by decide))
      · exact sS j (by omega) (by omega) (by omega) (by omega) (Or.inr (by omega)))
  · exact FCS_cg hFe ((va_up_ne _ _ (by decide)).trans (x3 98 (by decide) (by decide) (by decide))) (fun t ht j _ => by
      have d := (by decide : ∀ t, t ∈ [99, 100, 101] → t ≠ 82 ∧ t ≠ 83) t ht
      rw [x4 t d.1 d.2]) (sS 7 (by decide) (by decide) (by decide) (by decide) (Or.inl (by decide))) (fun i h1 h2 => sS i (by omega) (by omega) (by omega) (by omega) (Or.inr (by omega))) (by
      show (S 384 6).toInt ≤ (va_up S3 384 (upd (S3 384) 0 (si 384 0 + 1)) 384 6).toInt
      rw [sS 6 (by decide) (by decide) (by decide) (by decide) (Or.inl (by decide))]
      exact Int.le_refl _)
  · show va_up I2 320 (I2 320 + 1) 237 = va_up S3 384 (upd (S3 384) 0 (si 384 0 + 1)) 384 16
    rw [va_up_ne _ _ (show (237 : Nat) ≠ 320 by decide), x3 237 (by decide) (by decide) (by decide), sS 16 (by decide) (by decide) (by decide) (by decide) (Or.inl (by decide))]
    exact hAe.1
  · show 0 ≤ (va_up S3 384 (upd (S3 384) 0 (si 384 0 + 1)) 384 16).toInt ∧ (va_up S3 384 (upd (S3 384) 0 (si 384 0 + 1)) 384 16).toInt ≤ 20
    rw [sS 16 (by decide) (by decide) (by decide) (by decide) (Or.inl (by decide))]
    exact hAe.2.1
  · show r2 71 c = va_up S3 384 (upd (S3 384) 0 (si 384 0 + 1)) 384 (100 + 16 * c + 2) ∧ r2 72 c = va_up S3 384 (upd (S3 384) 0 (si 384 0 + 1)) 384 (100 + 16 * c + 3) ∧ (0 ≤ (va_up S3 384 (upd (S3 384) 0 (si 384 0 + 1)) 384 (100 + 16 * c + 2)).toInt ∧ (va_up S3 384 (upd (S3 384) 0 (si 384 0 + 1)) 384 (100 + 16 * c + 2)).toInt ≤ 31) ∧ (0 ≤ (va_up S3 384 (upd (S3 384) 0 (si 384 0 + 1)) 384 (100 + 16 * c + 3)).toInt ∧ (va_up S3 384 (upd (S3 384) 0 (si 384 0 + 1)) 384 (100 + 16 * c + 3)).toInt ≤ 31)
    rw [x4 71 (by decide) (by decide), x4 72 (by decide) (by decide), sS _ (by omega) (by omega) (by omega) (by omega) (Or.inl (by omega)), sS _ (by omega) (by omega) (by omega) (by omega) (Or.inl (by omega))]
    exact hAe.2.2.1 c hc
  · have hc2 : c < (I1 65).toNatClampNeg := by
      have hc3 : c < (va_up I2 320 (I2 320 + 1) 65).toNatClampNeg := hc
      rw [f65] at hc3
      exact hc3
    have c40 : c < 40 := by rw [i65] at hc2; omega
    show hb (l1 68 f) c = rkA (va_up S3 384 (upd (S3 384) 0 (si 384 0 + 1)) 384) f c
    rw [hAe.2.2.2 f hf c hc2]
    unfold rkA
    rw [sS _ (by omega) (by omega) (by omega) (by omega) (Or.inr (by omega)), sS _ (by omega) (by omega) (by omega) (by omega) (Or.inr (by omega))]
  · show va_up I2 320 (I2 320 + 1) 0 = va_up S3 384 (upd (S3 384) 0 (si 384 0 + 1)) 384 5
    rw [f0, sS 5 (by decide) (by decide) (by decide) (by decide) (Or.inl (by decide))]
    exact hUe.1
  · show va_up I2 320 (I2 320 + 1) 238 = va_up S3 384 (upd (S3 384) 0 (si 384 0 + 1)) 384 17
    rw [va_up_ne _ _ (show (238 : Nat) ≠ 320 by decide), x3 238 (by decide) (by decide) (by decide), sS 17 (by decide) (by decide) (by decide) (by decide) (Or.inl (by decide))]
    exact hUe.2.1
  · show va_up I2 320 (I2 320 + 1) 321 = va_up S3 384 (upd (S3 384) 0 (si 384 0 + 1)) 384 8
    rw [va_up_ne _ _ (show (321 : Nat) ≠ 320 by decide), b8]
    exact w1
  · have hp2 : p < (I 0).toNatClampNeg := by
      have hp3 : p < (va_up I2 320 (I2 320 + 1) 0).toNatClampNeg := hp
      rw [f0, n1 0 (by decide)] at hp3
      exact hp3
    have zp := clampE (I 0)
    have u0 := hU.1
    have p40 : p < 40 := by rw [u0] at zp hp2; omega
    show (r2 5 p = 200 ↔ va_up S3 384 (upd (S3 384) 0 (si 384 0 + 1)) 384 (740 + 12 * p + 3) = 200) ∧ r2 4 p = va_up S3 384 (upd (S3 384) 0 (si 384 0 + 1)) 384 (740 + 12 * p + 4)
    rw [x4 5 (by decide) (by decide), x4 4 (by decide) (by decide), nr 5 (by decide), nr 4 (by decide)]
    refine ⟨(hU.2.2.2.1 p hp2).1.trans (hst p p40).symm, ?_⟩
    rw [sB (740 + 12 * p + 4) (by omega) (fun p2 k2 _ hk2 => by simp only [List.mem_cons, List.not_mem_nil, or_false] at hk2; omega), x7 _ (by omega) (by omega) (by omega), sPer p 4 p40 (by decide)]
    exact (hU.2.2.2.1 p hp2).2
  · have hc2 : c < (I1 65).toNatClampNeg := by
      have hc3 : c < (va_up I2 320 (I2 320 + 1) 65).toNatClampNeg := hc
      rw [f65] at hc3
      exact hc3
    have c40 : c < 40 := by rw [i65] at hc2; omega
    show r2 75 c = va_up S3 384 (upd (S3 384) 0 (si 384 0 + 1)) 384 (100 + 16 * c + 6)
    rw [x4 75 (by decide) (by decide), sS _ (by omega) (by omega) (by omega) (by omega) (Or.inl (by omega))]
    exact hUe.2.2.2.2 c hc2
  · show I2 323 = (if va_up S3 384 (upd (S3 384) 0 (si 384 0 + 1)) 384 8 < 0 then I 320 else -1)
    rw [b8, e0]
    exact w2 ((n1 323 (by decide)).trans e)
  · show U3 410 = (if va_up S3 384 (upd (S3 384) 0 (si 384 0 + 1)) 384 8 < 0 then 1 else 0)
    rw [b8]
    exact (y2 410 (by decide)).trans w3
theorem cant_L {a0 a1 : Int32} (h60 : a1.toInt ≤ 60) {rqT : Nat → Nat → Option Nat} : ∀ (n : Nat) (x v : Int32) (IT : Nat → Int32) (JT : Nat → Int64) (rT : Nat → Nat → Int32) (lT : Nat → Nat → Int64) (I : Nat → Int32) (J : Nat → Int64) (ri : Nat → Nat → Int32) (rj : Nat → Nat → Int64) (U : Nat → Int32) (si : Nat → Nat → Int32) (sj : Nat → Nat → Int64), 0 ≤ x.toInt → x.toInt ≤ a1.toInt → (60 - x.toInt).toNat < n → (IT 320).toInt + (a1.toInt - x.toInt) ≤ 600 → TRC (IT 320).toNatClampNeg tI tR IT rT lT rqT (si 384) → WLD tI tR I J ri rj rq U (si 384) → IT 323 = v → (v = -1 ∨ 0 ≤ v.toInt) → (g_X11_cant_L34 a0 a1 tI tR rqT n x IT JT rT lT).1 = (g_X12_cant_L29 a0 a1 V sq n v x U si sj).1 := by
  have k0 : (0 : Int32).toInt = 0 := by decide
  have km : (-1 : Int32).toInt = -1 := by decide
  intro n
  induction n with
  | zero => intro x _ _ _ _ _ _ _ _ _ _ _ _ _ _ h; exact absurd h (Nat.not_lt_zero _)
  | succ n ih =>
    intro x v IT JT rT lT I J ri rj U si sj h1 h2 h3 h4 hW hG e323 hv
    rw [g_X11_cant_L34_e, g_X12_cant_L29_e]
    by_cases d : a1 ≤ x
    · rw [if_pos d, if_pos d, g_X11_cant_K84_e, g_X12_cant_K67_e]
      simp only [↓ap1_n]
      exact e323
    · have d1 := Int32.lt_iff_toInt_lt.mp (Int32.not_le.mp d)
      rw [if_neg d, if_neg d]
      simp only [↓ap1_n]
      rw [e323]
      by_cases q : v = -1
      · have nq : ¬ (0 : Int32) ≤ v := fun y => by
          have := Int32.le_iff_toInt_le.mp y
          rw [q, k0, km] at this
          omega
        rw [if_pos q, if_neg nq]
        have b := hW.1.1.1
        have e0 : IT 320 = si 384 0 := hW.1.2.2.1.1
        have hG' := hG
        obtain ⟨g1, g2, g3, g4, g5⟩ := hG'
        obtain ⟨⟨wA, wL⟩, wF, ⟨wK, wS, wH⟩, wD, wB⟩ := g5
        have ec : I 320 = IT 320 := g1.2.2.1.1.trans e0.symm
        have hn : (IT 320).toInt = ((IT 320).toNatClampNeg : Int) := by
          have z := clampE (IT 320)
          omega
        have hnG : (I 320).toInt = ((I 320).toNatClampNeg : Int) := by
          have z := clampE (I 320)
          rw [ec] at z ⊢
          omega
        have h6 : (IT 320).toInt < 600 := by omega
        have h6G : (I 320).toInt < 600 := by rw [ec]; exact h6
        obtain ⟨_, _, _, _, _, st⟩ := goBy_F (J := J) (V := V) (sj := sj) (sq := sq) (a0 := a0) g1 h6G hnG g2 g3 g4 wA wK wS wB
        have wr := month_R (J := J) (rj := rj) (rq := rq) (U := U) (V := V) (sj := sj) (sq := sq) (tI := tI) (tR := tR) (a0 := a0) g1 h6G
        obtain ⟨y1, y2, y3, y4⟩ := month_W (J := J) (rj := rj) (V := V) (sj := sj) (sq := sq) (a0 := a0) g1 h6G g2 g3 g4 hG.2.2.2.2 wr
        obtain ⟨I1, J1, r1, l1, I2, r2, c1, c2, c3, c4, c5, c6⟩ := cant_s (J := JT) (V := V) (sj := sj) (sq := sq) (a0 := a0) h6 hn g4 hW st
        have fb := g_X10_goBy_f (tI := tI) (tR := tR) (a0 := a0) (I := I) (J := J) (ri := ri) (rj := rj) (rq := rq)
        have fm := g_X12_month_f (a0 := a0) (I := U) (J := V) (ri := si) (rj := sj) (rq := sq)
        have c0 : (g_X12_month a0 U V si sj sq).2.2.1 384 0 = si 384 0 + 1 := by
          obtain ⟨U4, s4, m4, f2, o2, z0, _⟩ := month_v (U := U) (V := V) (sj := sj) (sq := sq) (a0 := a0) g1 h6G
          rw [f2]
          exact z0
        have e' := t1_inc (x := x) (by omega) (by omega)
        have t320 : (va_up I2 320 (I2 320 + 1) 320).toInt = (IT 320).toInt + 1 := by
          rw [va_up_self, c3]
          exact t1_one (by omega) (by omega)
        have tn : (va_up I2 320 (I2 320 + 1) 320).toNatClampNeg = (IT 320).toNatClampNeg + 1 := by
          have z := clampE (IT 320)
          have z2 := clampE (va_up I2 320 (I2 320 + 1) 320)
          omega
        have t323 : va_up I2 320 (I2 320 + 1) 323 = I2 323 := va_up_ne _ _ (by decide)
        rw [c1, bnV_mk, c2, bnV_mk]
        generalize g_X10_goBy tI tR a0 I J ri rj rq = gb at wr y1 y2 y3 fb
        generalize g_X12_month a0 U V si sj sq = c at wr y1 y2 y3 y4 fm c0 c4 c5 c6 ⊢
        obtain ⟨Ig, Jg, rg', lg, qg⟩ := gb
        obtain ⟨U1, V1, s1, m1, n1⟩ := c
        have eq1 : qg = rq := funext (fun t => fb.2.2.2.2 t (fun y => by cases (show t ∈ ([] : List Nat) from y)))
        have eV : V1 = V := funext (fun t => fm.2.1 t (fun y => by cases (show t ∈ ([] : List Nat) from y)))
        have en : n1 = sq := funext (fun t => fm.2.2.2.2 t (fun y => by cases (show t ∈ ([] : List Nat) from y)))
        subst eq1 eV en
        rw [bnV_mk]
        have hG2 : WLD tI tR Ig Jg rg' lg qg U1 (s1 384) := ⟨wr, y2, y3, y4, y1⟩
        have hW2 : TRC (va_up I2 320 (I2 320 + 1) 320).toNatClampNeg tI tR (va_up I2 320 (I2 320 + 1)) r2 l1 rqT (s1 384) := by
          rw [tn]
          exact c4
        have c5' := c5 (e323.trans q)
        have c6' : U1 410 = (if s1 384 8 < 0 then 1 else 0) := c6
        have c5q : I2 323 = (if s1 384 8 < 0 then IT 320 else -1) := c5'
        by_cases z : s1 384 8 < 0
        · rw [if_pos z] at c6' c5q
          rw [if_pos c6', g_X12_cant_K61_e]
          have ev : s1 384 (0 : Int32).toNatClampNeg - 1 = IT 320 := by
            have c0' : s1 384 0 = si 384 0 + 1 := c0
            rw [show (0 : Int32).toNatClampNeg = 0 from by decide, c0', ← e0]
            exact Int32.toInt_inj.mp (by rw [i_sub (t1_one (by omega) (by omega)) (show (1 : Int32).toInt = 1 by decide) (by omega) (by omega)]; omega)
          simp only [↓ap1_n]
          rw [ev]
          exact ih (x + Int32.ofInt 1) (IT 320) _ J1 r2 l1 Ig Jg rg' lg U1 s1 m1 (by omega) (by omega) (by omega) (by rw [t320]; omega) hW2 hG2 (t323.trans c5q) (Or.inr b.1)
        · rw [if_neg z] at c6' c5q
          rw [if_neg (show ¬ U1 410 = 1 by rw [c6']; decide), g_X12_cant_K61_e]
          simp only [↓ap1_n]
          exact ih (x + Int32.ofInt 1) v _ J1 r2 l1 Ig Jg rg' lg U1 s1 m1 (by omega) (by omega) (by omega) (by rw [t320]; omega) hW2 hG2 (by rw [t323, c5q, q]) hv
      · have v0 : 0 ≤ v.toInt := hv.resolve_left q
        rw [if_neg q, if_pos (show (0 : Int32) ≤ v from Int32.le_iff_toInt_le.mpr (by rw [k0]; exact v0)), g_X11_cant_K84_e, g_X12_cant_K67_e]
        simp only [↓ap1_n]
        exact e323
/-- cant -/
theorem cant_v {a0 a1 : Int32} (h : WLD tI tR nI nJ nR nL nQ U (si 384)) : (g_X11_cant nI nJ nR nL nQ tI tR a0 a1 I J ri rj rq).1 = (g_X12_cant a0 a1 U V si sj sq).1 := by
  have k0 : (0 : Int32).toInt = 0 := by decide
  have h' := h
  obtain ⟨g1, g2, g3, g4, ⟨⟨wA, wL⟩, wF, ⟨wK, wS, wH⟩, wD, wB⟩⟩ := h'
  obtain ⟨v, c1, c2, c3⟩ := canTime (a0 := a1) (a1 := a0) (J := nJ) (rj := nL) (rq := nQ) (U := U) (V := V) (sj := sj) (sq := sq) g1
  rw [g_X11_cant_e, g_X12_cant_e, c1, c2, bnI_mk, bnI_mk]
  by_cases q : v = 0
  · simp only [if_pos q]
  · simp only [if_neg q, ↓ap1_n]
    obtain ⟨b1, b2, b3, b4, b5⟩ := c3 q
    have qc : QC nI nR (g_X10_copyFrom nI nJ nR nL nQ I J ri rj rq) := copyFrom_v
    have qx : QX nI nR nQ (g_X10_copyFrom nI nJ nR nL nQ I J ri rj rq) := copyFrom_x
    have qw : QW nI nJ nR nL (g_X10_copyFrom nI nJ nR nL nQ I J ri rj rq) := copyFrom_w
    generalize g_X10_copyFrom nI nJ nR nL nQ I J ri rj rq = p at qc qx qw ⊢
    obtain ⟨I1, J1, r1, l1, q1⟩ := p
    rw [bnV_mk]
    have s384 : va_up si 386 (va_cpy (si 384) (si 386) 0 0 12720) 384 = si 384 := va_up_ne _ _ (by decide)
    have o : ∀ f, f ≠ 323 → va_up I1 323 (-1) f = I1 f := fun f hf => va_up_ne _ _ hf
    have w320 : I1 320 = nI 320 := qw.1 320 (by decide)
    have bn := bnd_of g1
    have r40 : ∀ t, t ∈ [1, 2, 3, 4, 5, 9, 11, 71, 72, 77, 325] → ∀ j, j < lnw t → r1 t j = nR t j := qw.2.2.1
    have hR : RSL (va_up I1 323 (-1)) r1 (si 384) := by
      have hR1 : RSL I1 r1 (si 384) := RL_copy g1 qc (fun _ _ => rfl) g1.2.1
      exact RL_cg hR1 (fun f hf => o f ((by decide : ∀ f, f ∈ [64, 65, 224, 234, 235, 236, 320] → f ≠ 323) f hf)) (fun _ _ _ _ => rfl) (fun _ _ _ _ => rfl) (fun _ _ _ _ => rfl) (fun _ _ => rfl) g1.2.1
    have hT : TXS (va_up I1 323 (-1)) q1 tI tR (si 384) := TXS_cg g2 ((o 96 (by decide)).trans qx.1) qx.2.2.2 (fun _ _ _ _ => ⟨rfl, fun _ _ => rfl⟩) (fun _ _ => rfl)
    have hF : FCS (va_up I1 323 (-1)) r1 (si 384) := FCS_cg g3 ((o 98 (by decide)).trans qx.2.1) qx.2.2.1 rfl (fun _ _ _ => rfl) (Int.le_refl _)
    have hA : ARH (va_up I1 323 (-1) 320).toNatClampNeg (va_up I1 323 (-1)) r1 l1 (si 384) := by
      have h1 := dAR nI nJ nR nL (si 384) (va_up I1 323 (-1)) J1 r1 l1 (si 384) bn ⟨wA, wL⟩ (fun f hf => (o f ((by decide : ∀ f, f ∈ [65, 320, 237, 324] → f ≠ 323) f hf)).trans (qw.1 f ((by decide : ∀ f, f ∈ [65, 320, 237, 324] → f ∈ [65, 320, 237, 238, 321, 322, 323, 324, 0, 10]) f hf))) qw.2.1 (fun t ht j hj => r40 t ((by decide : ∀ t, t ∈ [71, 72] → t ∈ [1, 2, 3, 4, 5, 9, 11, 71, 72, 77, 325]) t ht) j hj) qw.2.2.2 (fun _ _ => rfl)
      exact h1.1
    have hU : FUT (va_up I1 323 (-1)) r1 (si 384) := by
      obtain ⟨f1, f2, f3, f4⟩ := wF
      obtain ⟨i0, ⟨n0, n40⟩, kp⟩ := wK
      have x0 : va_up I1 323 (-1) 0 = nI 0 := (o 0 (by decide)).trans (qw.1 0 (by decide))
      have x65 : va_up I1 323 (-1) 65 = nI 65 := (o 65 (by decide)).trans (qw.1 65 (by decide))
      refine ⟨x0.trans i0, ((o 238 (by decide)).trans (qw.1 238 (by decide))).trans f1, ((o 321 (by decide)).trans (qw.1 321 (by decide))).trans f2, fun p hp => ?_, fun c hc => ?_⟩
      · rw [x0, i0] at hp
        have zp := clampE (si 384 5)
        have p40 : p < 40 := by omega
        rw [r40 5 (by decide) p (lnw_40 (by decide) p40), r40 4 (by decide) p (lnw_40 (by decide) p40)]
        obtain ⟨⟨_, _, _, k4, k5, _⟩, _⟩ := kp p p40
        rw [k4, k5]
        exact ⟨Iff.rfl, rfl⟩
      · rw [x65] at hc
        have c40 : c < 40 := Nat.lt_of_lt_of_le hc bn.2
        have e75 : r1 75 c = nR 75 c := qc.2.2.2 75 (by decide) c c40
        rw [e75]
        exact ((g1.2.2.2.2.2.1 c c40).2.2.2.2.1).symm
    exact cant_L (rqT := q1) (V := V) (sq := sq) b4 ((60 - (0 : Int32).toInt).toNat + 1) 0 (-1) (va_up I1 323 (-1)) J1 r1 l1 nI nJ nR nL U _ sj (by omega) (by omega) (by omega) (by rw [o 320 (by decide), w320]; omega) (by rw [s384]; exact ⟨hR, hT, hF, hA, hU⟩) (by rw [s384]; exact h) (va_up_self _ _ _) (Or.inl rfl)
end PK19
