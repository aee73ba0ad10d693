/-! ===== pure: AREA and THE FUND, both sides alike (behind pu21, px2) ===== -/
section PU22
variable {I : Nat → Int32} {J : Nat → Int64} {ri : Nat → Nat → Int32} {rj : Nat → Nat → Int64} {rq : Nat → Nat → Option Nat}
variable {U : Nat → Int32} {V : Nat → Int64} {si : Nat → Nat → Int32} {sj : Nat → Nat → Int64} {sq : Nat → Nat → Option Nat}
variable {tI : Nat → Nat → Int32} {tR : Nat → Nat → Nat → Int32}
/-- what AREA hangs on: REACH, the places, the ROCKS of months up to m -/
def ARH (m : Nat) (I : Nat → Int32) (ri : Nat → Nat → Int32) (rj : Nat → Nat → Int64) (A : Nat → Int32) : Prop := I 237 = A 16 ∧ (0 ≤ (A 16).toInt ∧ (A 16).toInt ≤ 20) ∧ (∀ c, c < 40 → ri 71 c = A (100 + 16 * c + 2) ∧ ri 72 c = A (100 + 16 * c + 3) ∧ (0 ≤ (A (100 + 16 * c + 2)).toInt ∧ (A (100 + 16 * c + 2)).toInt ≤ 31) ∧ (0 ≤ (A (100 + 16 * c + 3)).toInt ∧ (A (100 + 16 * c + 3)).toInt ≤ 31)) ∧ ∀ f, f < m → ∀ c, c < (I 65).toNatClampNeg → hb (rj 68 f) c = rkA A f c
/-- what THE FUND hangs on -/
def FUH (I : Nat → Int32) (ri : Nat → Nat → Int32) (A : Nat → Int32) : Prop := I 0 = A 5 ∧ I 238 = A 17 ∧ I 321 = A 8 ∧ I 323 = A 12 ∧ (-1 ≤ (A 12).toInt) ∧ (∀ p, p < (I 0).toNatClampNeg → (ri 5 p = 200 ↔ A (740 + 12 * p + 3) = 200) ∧ ri 4 p = A (740 + 12 * p + 4)) ∧ ∀ c, c < (I 65).toNatClampNeg → ri 75 c = A (100 + 16 * c + 6)
theorem mth_r {mo y : Int32} {m : Nat} (hm : mo.toInt = (m : Int)) : ∃ s : Nat, (mth mo y).toInt = (s : Int) ∧ s ≤ m := by
  have k0 : (0 : Int32).toInt = 0 := by decide
  unfold mth
  by_cases q : y < 0
  · rw [if_pos q]; exact ⟨m, hm, Nat.le_refl _⟩
  · rw [if_neg q]
    have q0 : ¬ y.toInt < (0 : Int32).toInt := fun z => q (Int32.lt_iff_toInt_lt.mpr z)
    by_cases q2 : mo ≤ y
    · rw [if_pos q2]; exact ⟨m, hm, Nat.le_refl _⟩
    · rw [if_neg q2]
      have q3 : ¬ mo.toInt ≤ y.toInt := fun z => q2 (Int32.le_iff_toInt_le.mpr z)
      exact ⟨y.toInt.toNat, by omega, by omega⟩
theorem lz_8 {j : Nat} (h : zn j ∈ lzt) : j ≠ 8 ∧ j ≠ 12 ∧ j ≠ 18 := ⟨fun e => by subst e; exact absurd h (by decide), fun e => by subst e; exact absurd h (by decide), fun e => by subst e; exact absurd h (by decide)⟩
theorem TXS_A {A A' : Nat → Int32} (h : TXS I rq tI tR A) (e : ∀ i, i ≠ 8 → i ≠ 12 → i ≠ 18 → A' i = A i) : TXS I rq tI tR A' := TXS_cg h rfl (fun _ _ => rfl) (fun _ _ _ _ => ⟨rfl, fun _ _ => rfl⟩) (fun j hj => e j (lz_8 hj).1 (lz_8 hj).2.1 (lz_8 hj).2.2)
theorem FCS_A {A A' : Nat → Int32} (h : FCS I ri A) (e : ∀ i, i ≠ 8 → i ≠ 12 → i ≠ 18 → A' i = A i) : FCS I ri A' := FCS_cg h rfl (fun _ _ _ _ => rfl) (e 7 (by decide) (by decide) (by decide)) (fun i _ _ => e i (by omega) (by omega) (by omega)) (by
  rw [e 6 (by decide) (by decide) (by decide)]
  exact Int.le_refl _)
set_option maxHeartbeats 1000000 in
theorem reckon_sim {m : Int32} {n : Nat} (hT : TXS I rq tI tR (si 384)) (hF : FCS I ri (si 384)) (h407 : U 407 = 0) (em : I 320 = m) (hm : m.toInt = (n : Int)) (hm6 : n < 600) (e65 : I 65 = si 384 2) (h65 : 0 ≤ (si 384 2).toInt ∧ (si 384 2).toInt ≤ 40) (h5 : 0 ≤ (si 384 5).toInt ∧ (si 384 5).toInt ≤ 40) (hA : ARH (n + 1) I ri rj (si 384)) : ∃ (I1 : Nat → Int32) (r1 : Nat → Nat → Int32) (B U1 : Nat → Int32), g_X10_reckon tI tR I J ri rj rq = (I1, J, r1, rj, rq) ∧ g_X12_fundGoes m U V si sj sq = (U1, V, va_up si 384 B, sj, sq) ∧ (∀ f, f ≠ 321 → f ≠ 323 → f ≠ 324 → I1 f = I f) ∧ (∀ t, t ≠ 82 → t ≠ 83 → r1 t = ri t) ∧ I1 324 = B 18 ∧ (∀ f, f ≠ 410 → U1 f = U f) ∧ (∀ i, i ≠ 8 → i ≠ 12 → i ≠ 18 → B i = si 384 i) ∧ (FUH I ri (si 384) → I1 321 = B 8 ∧ I1 323 = B 12 ∧ (-1 ≤ (B 12).toInt) ∧ U1 410 = (if B 8 < 0 then 1 else 0)) := by
  obtain ⟨a1, a2, a3, a4⟩ := hA
  have k0 : (0 : Int32).toInt = 0 := by decide
  have km : (-1 : Int32).toInt = -1 := by decide
  have k6 : (600 : Int32).toInt = 600 := by decide
  have z65 := clampE (I 65)
  obtain ⟨N, hN⟩ : ∃ N : Nat, (si 384 2).toInt = (N : Int) := ⟨(si 384 2).toInt.toNat, by omega⟩
  have cN : (I 65).toNatClampNeg = N := by rw [e65]; exact at_n hN
  obtain ⟨R, hR⟩ : ∃ R : Nat, (si 384 16).toInt = (R : Int) := ⟨(si 384 16).toInt.toNat, by omega⟩
  obtain ⟨B, Bs, ar, lv, F, U1, b1, b2, b3, b4, b5, b6, b7, b8, b9, b10, b11⟩ := fundGoes_v (I := U) (J := V) (ri := si) (rj := sj) (rq := sq) (m := m) h65.1 h65.2 h5.1 h5.2 h407
  have hT1 : TXS I rq tI tR (va_up si 384 Bs 384) := by rw [va_up_self]; exact TXS_A hT (fun i i1 _ _ => b1 i i1)
  have hF1 : FCS I ri (va_up si 384 Bs 384) := by rw [va_up_self]; exact FCS_A hF (fun i i1 _ _ => b1 i i1)
  obtain ⟨y, f1, f2⟩ := fx_m (I := I) (J := J) (ri := ri) (rj := rj) (rq := rq) (U := va_up U 410 0) (V := V) (si := va_up si 384 Bs) (sj := sj) (sq := sq) (tI := tI) (tR := tR) (mo := m) hT1 hF1
  obtain ⟨s, hs, hs2⟩ := mth_r (y := y) hm
  obtain ⟨v, r', g1, g2, g3⟩ := area_v (I := I) (J := J) (rj := rj) (rq := rq) (U := va_up U 410 0) (V := V) (si := va_up si 384 Bs) (sj := sj) (sq := sq) (a0 := rj 68 s) (a1 := I 237) (x19 := mth m y) (R := R) (N := N) (m := s) (r := ri) (by rw [a1]; exact hR) (by omega) (by rw [va_up_self, b1 16 (by decide)]; exact hR) (by rw [e65]; exact hN) (by omega) (by rw [va_up_self, b1 2 (by decide)]; exact hN) hs (by omega) (fun c hc => by rw [va_up_self, b1 _ (by omega)]; exact (a3 c (by omega)).1) (fun c hc => by rw [va_up_self, b1 _ (by omega)]; exact (a3 c (by omega)).2.1) (fun c hc => by rw [va_up_self, b1 _ (by omega), b1 _ (by omega)]; exact (a3 c (by omega)).2.2) (fun c hc => by
    rw [a4 s (by omega) c (by rw [cN]; exact hc)]
    unfold rkA
    rw [va_up_self, b1 _ (by omega), b1 _ (by omega)])
  have ev : ar = v := by
    rw [f2, g3] at b2
    exact (Prod.mk.inj b2).1.symm
  subst ev
  -- LEAVE, behind AREA
  have hT2 : TXS (va_up I 324 ar) rq tI tR (va_up si 384 (upd Bs 18 ar) 384) := by
    rw [va_up_self]
    exact TXS_A (TXS_cg hT (va_up_ne _ _ (by decide)) (fun _ _ => rfl) (fun _ _ _ _ => ⟨rfl, fun _ _ => rfl⟩) (fun _ _ => rfl)) (fun i i1 _ i3 => (upd_n _ _ i3).trans (b1 i i1))
  have hF2 : FCS (va_up I 324 ar) r' (va_up si 384 (upd Bs 18 ar) 384) := by
    rw [va_up_self]
    exact FCS_A (FCS_cg hF (va_up_ne _ _ (by decide)) (fun t ht j _ => by
      have ht2 : t ≠ 82 ∧ t ≠ 83 := (by decide : ∀ t, t ∈ [99, 100, 101] → t ≠ 82 ∧ t ≠ 83) t ht
      rw [g2 t ht2.1 ht2.2]) rfl (fun _ _ _ => rfl) (Int.le_refl _)) (fun i i1 _ i3 => (upd_n _ _ i3).trans (b1 i i1))
  obtain ⟨l, l1, l2⟩ := lv_m (I := va_up I 324 ar) (J := J) (ri := r') (rj := rj) (rq := rq) (U := va_up U 410 0) (V := V) (si := va_up si 384 (upd Bs 18 ar)) (sj := sj) (sq := sq) (tI := tI) (tR := tR) (mo := m) hT2 hF2
  have el : lv = l := by
    rw [l2] at b3
    exact (Prod.mk.inj b3).1.symm
  subst el
  obtain ⟨w, w1, w2⟩ := countWalls_v (I := va_up I 324 ar) (J := J) (ri := r') (rj := rj) (rq := rq) (by rw [va_up_ne _ _ (show (65 : Nat) ≠ 324 by decide), e65]; exact h65.1) (by rw [va_up_ne _ _ (show (65 : Nat) ≠ 324 by decide), e65]; exact h65.2)
  -- what those ABROAD send, whatever it is
  have ps := fg_pure (g_X0_sendings_f (I := va_up I 324 ar) (J := J) (ri := r') (rj := rj) (rq := rq))
  generalize hsn : (g_X0_sendings (va_up I 324 ar) J r' rj rq).1 = sn at ps
  have red : g_X10_reckon tI tR I J ri rj rq = g_X10_reckon_K43 I J ri rj rq tI tR (mth m y) := by
    rw [g_X10_reckon_e]
    simp only [↓ap1_n]
    rw [em, if_pos (Int32.lt_iff_toInt_lt.mpr (by omega)), bn_n f1]
    unfold mth
    by_cases q : y < 0
    · rw [if_pos q, if_pos q, g_X10_reckon_K39_e]
    · rw [if_neg q, if_neg q]
      by_cases q2 : m ≤ y
      · rw [if_pos q2, if_pos q2, g_X10_reckon_K39_e]
      · rw [if_neg q2, if_neg q2]
  generalize hG : I 321 + (sn + lv * ar / 100 - I 238 * w) = G at *
  have i320 : va_up I 324 ar 320 = m := (va_up_ne _ _ (by decide)).trans em
  have red2 : g_X10_reckon_K43 I J ri rj rq tI tR (mth m y) = (if 0 ≤ G then (va_up (va_up I 324 ar) 321 G, J, r', rj, rq) else if I 323 = -1 then (va_up (va_up (va_up I 324 ar) 321 G) 323 m, J, r', rj, rq) else (va_up (va_up I 324 ar) 321 G, J, r', rj, rq)) := by
    rw [g_X10_reckon_K43_e]
    simp only [↓ap1_n]
    rw [at_n hs, bn_n g1]
    try simp only [va_up_self]
    rw [bn_n ps, i320, bn_n l1]
    try simp only [va_up_self]
    rw [bn_n w1]
    try simp only [va_up_self]
    rw [va_up_ne _ _ (show (321 : Nat) ≠ 324 by decide), va_up_ne _ _ (show (238 : Nat) ≠ 324 by decide), hG, va_up_ne _ _ (show (323 : Nat) ≠ 321 by decide), va_up_ne _ _ (show (323 : Nat) ≠ 324 by decide), va_up_ne _ _ (show (320 : Nat) ≠ 321 by decide), i320]
  rw [red, red2]
  have fund : FUH I ri (si 384) → G = B 8 := fun ⟨u0, u1, u2, _, _, u5, u6⟩ => by
    have s1 : sn = snC (r' 5) (r' 4) (I 0).toNatClampNeg := by
      have e0 : va_up I 324 ar 0 = I 0 := va_up_ne _ _ (by decide)
      have := sendings_v (I := va_up I 324 ar) (J := J) (ri := r') (rj := rj) (rq := rq) (by rw [e0, u0]; exact h5.1) (by rw [e0, u0]; exact h5.2)
      rw [← hsn, this, e0]
    have s2 : snC (r' 5) (r' 4) (I 0).toNatClampNeg = snC (plA (si 384)) (sdA (si 384)) (si 384 5).toNatClampNeg := by
      rw [u0]
      refine snC_cg _ (fun p hp => ?_)
      rw [g2 5 (by decide) (by decide), g2 4 (by decide) (by decide)]
      exact u5 p (by rw [u0]; exact hp)
    have s3 : I 238 * w = wlC (wlA (si 384)) (si 384 17) (si 384 2).toNatClampNeg := by
      rw [w2, va_up_ne _ _ (show (65 : Nat) ≠ 324 by decide), u1, g2 75 (by decide) (by decide), e65]
      exact wlC_cg _ (fun c hc => u6 c (by rw [e65]; exact hc))
    rw [b10, b7, ← hG, s1, s2, s3, u2]
    exact i_fu _ _ _ _
  by_cases q : 0 ≤ G
  · rw [if_pos q]
    refine ⟨_, _, B, U1, rfl, b4, fun f f1 _ f3 => by rw [va_up_ne _ _ f1, va_up_ne _ _ f3], g2, ?_, b5, b8, fun hU => ?_⟩
    · rw [va_up_ne _ _ (show (324 : Nat) ≠ 321 by decide), va_up_self]; exact b9.symm
    · have eg := fund hU
      have nq : ¬ F < 0 := fun z => by
        rw [← b10, ← eg] at z
        have q1 := Int32.le_iff_toInt_le.mp q
        have q2 := Int32.lt_iff_toInt_lt.mp z
        omega
      rw [if_neg nq] at b11 b6
      refine ⟨by rw [va_up_self]; exact eg, ?_, by rw [b11]; exact hU.2.2.2.2.1, by rw [b6, if_neg (by rw [b10]; exact nq)]⟩
      rw [va_up_ne _ _ (show (323 : Nat) ≠ 321 by decide), va_up_ne _ _ (show (323 : Nat) ≠ 324 by decide), b11]
      exact hU.2.2.2.1
  · rw [if_neg q]
    have q1 : G < 0 := Int32.not_le.mp q
    by_cases p : I 323 = -1
    · rw [if_pos p]
      refine ⟨_, _, B, U1, rfl, b4, fun f f1 f2 f3 => by rw [va_up_ne _ _ f2, va_up_ne _ _ f1, va_up_ne _ _ f3], g2, ?_, b5, b8, fun hU => ?_⟩
      · rw [va_up_ne _ _ (show (324 : Nat) ≠ 323 by decide), va_up_ne _ _ (show (324 : Nat) ≠ 321 by decide), va_up_self]; exact b9.symm
      · have eg := fund hU
        have nq : F < 0 := by rw [← b10, ← eg]; exact q1
        have p2 : si 384 12 = -1 := hU.2.2.2.1.symm.trans p
        rw [if_pos nq] at b11 b6
        rw [p2, if_neg (show ¬ (0 : Int32) ≤ -1 by decide)] at b11
        refine ⟨by rw [va_up_ne _ _ (show (321 : Nat) ≠ 323 by decide), va_up_self]; exact eg, by rw [va_up_self, b11], by rw [b11, hm]; omega, by rw [b6, if_pos (by rw [b10]; exact nq)]⟩
    · rw [if_neg p]
      refine ⟨_, _, B, U1, rfl, b4, fun f f1 _ f3 => by rw [va_up_ne _ _ f1, va_up_ne _ _ f3], g2, ?_, b5, b8, fun hU => ?_⟩
      · rw [va_up_ne _ _ (show (324 : Nat) ≠ 321 by decide), va_up_self]; exact b9.symm
      · have eg := fund hU
        have nq : F < 0 := by rw [← b10, ← eg]; exact q1
        have e12 : I 323 = si 384 12 := hU.2.2.2.1
        have p2 : 0 ≤ si 384 12 := Int32.le_iff_toInt_le.mpr (by
          have h1 := hU.2.2.2.2.1
          have h2 : (si 384 12).toInt ≠ -1 := fun z => p (by rw [e12]; exact Int32.toInt_inj.mp (z.trans km.symm))
          omega)
        rw [if_pos nq] at b11 b6
        rw [if_pos p2] at b11
        refine ⟨by rw [va_up_self]; exact eg, ?_, by rw [b11]; exact hU.2.2.2.2.1, by rw [b6, if_pos (by rw [b10]; exact nq)]⟩
        rw [va_up_ne _ _ (show (323 : Nat) ≠ 321 by decide), va_up_ne _ _ (show (323 : Nat) ≠ 324 by decide), b11]
        exact e12
end PU22
