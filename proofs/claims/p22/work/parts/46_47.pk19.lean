/-! ===== pure: CANT, both sides (behind pk17; mkpk19.py writes it) ===== -/
section PK19
variable {nI : Nat → Int32} {nJ : Nat → Int64} {nR : Nat → Nat → Int32} {nL : Nat → Nat → Int64} {nQ : Nat → Nat → Option Nat}
variable {I : Nat → Int32} {J : Nat → Int64} {ri : Nat → Nat → Int32} {rj : Nat → Nat → Int64} {rq : Nat → Nat → Option Nat}
variable {U : Nat → Int32} {V : Nat → Int64} {si : Nat → Nat → Int32} {sj : Nat → Nat → Int64} {sq : Nat → Nat → Option Nat}
variable {tI : Nat → Nat → Int32} {tR : Nat → Nat → Nat → Int32}
/-- what THE FUND of a trial hangs on -/
def FUT (I : Nat → Int32) (ri : Nat → Nat → Int32) (A : Nat → Int32) : Prop := I 0 = A 5 ∧ I 238 = A 17 ∧ I 321 = A 8 ∧ (∀ p, p < (I 0).toNatClampNeg → (ri 5 p = 200 ↔ A (740 + 12 * p + 3) = 200) ∧ ri 4 p = A (740 + 12 * p + 4)) ∧ ∀ c, c < (I 65).toNatClampNeg → ri 75 c = A (100 + 16 * c + 6)
set_option maxHeartbeats 1000000 in
theorem reckon_t {m : Int32} {n : Nat} (hT : TXS I rq tI tR (si 384)) (hF : FCS I ri (si 384)) (h407 : U 407 = 0) (em : I 320 = m) (hm : m.toInt = (n : Int)) (hm6 : n < 600) (e65 : I 65 = si 384 2) (h65 : 0 ≤ (si 384 2).toInt ∧ (si 384 2).toInt ≤ 40) (h5 : 0 ≤ (si 384 5).toInt ∧ (si 384 5).toInt ≤ 40) (hA : ARH (n + 1) I ri rj (si 384)) : ∃ (I1 : Nat → Int32) (r1 : Nat → Nat → Int32) (B U1 : Nat → Int32), g_X10_reckon tI tR I J ri rj rq = (I1, J, r1, rj, rq) ∧ g_X12_fundGoes m U V si sj sq = (U1, V, va_up si 384 B, sj, sq) ∧ (∀ f, f ≠ 321 → f ≠ 323 → f ≠ 324 → I1 f = I f) ∧ (∀ t, t ≠ 82 → t ≠ 83 → r1 t = ri t) ∧ I1 324 = B 18 ∧ (∀ f, f ≠ 410 → U1 f = U f) ∧ (∀ i, i ≠ 8 → i ≠ 12 → i ≠ 18 → B i = si 384 i) ∧ (FUT I ri (si 384) → I1 321 = B 8 ∧ (I 323 = -1 → I1 323 = (if B 8 < 0 then m else -1)) ∧ U1 410 = (if B 8 < 0 then 1 else 0)) := by
  obtain ⟨a1, a2, a3, a4⟩ := hA
  have k0 : (0 : Int32).toInt = 0 := by decide
  have km : (-1 : Int32).toInt = -1 := by decide
  have k6 : (600 : Int32).toInt = 600 := by decide
  have z65 := clampE (I 65)
  obtain ⟨N, hN⟩ : ∃ N : Nat, (si 384 2).toInt = (N : Int) := ⟨(si 384 2).toInt.toNat, by omega⟩
  have cN : (I 65).toNatClampNeg = N := by rw [e65]; exact at_n hN
  obtain ⟨R, hR⟩ : ∃ R : Nat, (si 384 16).toInt = (R : Int) := ⟨(si 384 16).toInt.toNat, by omega⟩
  obtain ⟨B, Bs, ar, lv, F, U1, b1, b2, b3, b4, b5, b6, b7, b8, b9, b10, b11⟩ := fundGoes_v (I := U) (J := V) (ri := si) (rj := sj) (rq := sq) (m := m) h65.1 h65.2 h5.1 h5.2 h407
  have hT1 : TXS I rq tI tR (va_up si 384 Bs 384) := by rw [va_up_self]; exact TXS_A hT (fun i i1 _ _ => b1 i i1)
  have hF1 : FCS I ri (va_up si 384 Bs 384) := by rw [va_up_self]; exact FCS_A hF (fun i i1 _ _ => b1 i i1)
  obtain ⟨y, f1, f2⟩ := fx_m (I := I) (J := J) (ri := ri) (rj := rj) (rq := rq) (U := va_up U 410 0) (V := V) (si := va_up si 384 Bs) (sj := sj) (sq := sq) (tI := tI) (tR := tR) (mo := m) hT1 hF1
  obtain ⟨s, hs, hs2⟩ := mth_r (y := y) hm
  obtain ⟨v, r', g1, g2, g3⟩ := area_v (I := I) (J := J) (rj := rj) (rq := rq) (U := va_up U 410 0) (V := V) (si := va_up si 384 Bs) (sj := sj) (sq := sq) (a0 := rj 68 s) (a1 := I 237) (x19 := mth m y) (R := R) (N := N) (m := s) (r := ri) (by rw [a1]; exact hR) (by omega) (by rw [va_up_self, b1 16 (by decide)]; exact hR) (by rw [e65]; exact hN) (by omega) (by rw [va_up_self, b1 2 (by decide)]; exact hN) hs (by omega) (fun c hc => by rw [va_up_self, b1 _ (by omega)]; exact (a3 c (by omega)).1) (fun c hc => by rw [va_up_self, b1 _ (by omega)]; exact (a3 c (by omega)).2.1) (fun c hc => by rw [va_up_self, b1 _ (by omega), b1 _ (by omega)]; exact (a3 c (by omega)).2.2) (fun c hc => by
    rw [a4 s (by omega) c (by rw [cN]; exact hc)]
    unfold rkA
    rw [va_up_self, b1 _ (by omega), b1 _ (by omega)])
  have ev : ar = v := by
    rw [f2, g3] at b2
    exact (Prod.mk.inj b2).1.symm
  subst ev
  -- LEAVE, behind AREA
  have hT2 : TXS (va_up I 324 ar) rq tI tR (va_up si 384 (upd Bs 18 ar) 384) := by
    rw [va_up_self]
    exact TXS_A (TXS_cg hT (va_up_ne _ _ (by decide)) (fun _ _ => rfl) (fun _ _ _ _ => ⟨rfl, fun _ _ => rfl⟩) (fun _ _ => rfl)) (fun i i1 _ i3 => (upd_n _ _ i3).trans (b1 i i1))
  have hF2 : FCS (va_up I 324 ar) r' (va_up si 384 (upd Bs 18 ar) 384) := by
    rw [va_up_self]
    exact FCS_A (FCS_cg hF (va_up_ne _ _ (by decide)) (fun t ht j _ => by
      have ht2 : t ≠ 82 ∧ t ≠ 83 := (by decide : ∀ t, t ∈ [99, 100, 101] → t ≠ 82 ∧ t ≠ 83) t ht
      rw [g2 t ht2.1 ht2.2]) rfl (fun _ _ _ => rfl) (Int.le_refl _)) (fun i i1 _ i3 => (upd_n _ _ i3).trans (b1 i i1))
  obtain ⟨l, l1, l2⟩ := lv_m (I := va_up I 324 ar) (J := J) (ri := r') (rj := rj) (rq := rq) (U := va_up U 410 0) (V := V) (si := va_up si 384 (upd Bs 18 ar)) (sj := sj) (sq := sq) (tI := tI) (tR := tR) (mo := m) hT2 hF2
  have el : lv = l := by
    rw [l2] at b3
    exact (Prod.mk.inj b3).1.symm
  subst el
  obtain ⟨w, w1, w2⟩ := countWalls_v (I := va_up I 324 ar) (J := J) (ri := r') (rj := rj) (rq := rq) (by rw [va_up_ne _ _ (show (65 : Nat) ≠ 324 by decide), e65]; exact h65.1) (by rw [va_up_ne _ _ (show (65 : Nat) ≠ 324 by decide), e65]; exact h65.2)
  -- what those ABROAD send, whatever it is
  have ps := fg_pure (g_X0_sendings_f (I := va_up I 324 ar) (J := J) (ri := r') (rj := rj) (rq := rq))
  generalize hsn : (g_X0_sendings (va_up I 324 ar) J r' rj rq).1 = sn at ps
  have red : g_X10_reckon tI tR I J ri rj rq = g_X10_reckon_K43 I J ri rj rq tI tR (mth m y) := by
    rw [g_X10_reckon_e]
    simp only [↓ap1_n]
    rw [em, if_pos (Int32.lt_iff_toInt_lt.mpr (by omega)), bn_n f1]
    unfold mth
    by_cases q : y < 0
    · rw [if_pos q, if_pos q, g_X10_reckon_K39_e]
    · rw [if_neg q, if_neg q]
      by_cases q2 : m ≤ y
      · rw [if_pos q2, if_pos q2, g_X10_reckon_K39_e]
      · rw [if_neg q2, if_neg q2]
  generalize hG : I 321 + (sn + lv * ar / 100 - I 238 * w) = G at *
  have i320 : va_up I 324 ar 320 = m := (va_up_ne _ _ (by decide)).trans em
  have red2 : g_X10_reckon_K43 I J ri rj rq tI tR (mth m y) = (if 0 ≤ G then (va_up (va_up I 324 ar) 321 G, J, r', rj, rq) else if I 323 = -1 then (va_up (va_up (va_up I 324 ar) 321 G) 323 m, J, r', rj, rq) else (va_up (va_up I 324 ar) 321 G, J, r', rj, rq)) := by
    rw [g_X10_reckon_K43_e]
    simp only [↓ap1_n]
    rw [at_n hs, bn_n g1]
    try simp only [va_up_self]
    rw [bn_n ps, i320, bn_n l1]
    try simp only [va_up_self]
    rw [bn_n w1]
    try simp only [va_up_self]
    rw [va_up_ne _ _ (show (321 : Nat) ≠ 324 by decide), va_up_ne _ _ (show (238 : Nat) ≠ 324 by decide), hG, va_up_ne _ _ (show (323 : Nat) ≠ 321 by decide), va_up_ne _ _ (show (323 : Nat) ≠ 324 by decide), va_up_ne _ _ (show (320 : Nat) ≠ 321 by decide), i320]
  rw [red, red2]
  have fund : FUT I ri (si 384) → G = B 8 := fun ⟨u0, u1, u2, u5, u6⟩ => by
    have s1 : sn = snC (r' 5) (r' 4) (I 0).toNatClampNeg := by
      have e0 : va_up I 324 ar 0 = I 0 := va_up_ne _ _ (by decide)
      have := sendings_v (I := va_up I 324 ar) (J := J) (ri := r') (rj := rj) (rq := rq) (by rw [e0, u0]; exact h5.1) (by rw [e0, u0]; exact h5.2)
      rw [← hsn, this, e0]
    have s2 : snC (r' 5) (r' 4) (I 0).toNatClampNeg = snC (plA (si 384)) (sdA (si 384)) (si 384 5).toNatClampNeg := by
      rw [u0]
      refine snC_cg _ (fun p hp => ?_)
      rw [g2 5 (by decide) (by decide), g2 4 (by decide) (by decide)]
      exact u5 p (by rw [u0]; exact hp)
    have s3 : I 238 * w = wlC (wlA (si 384)) (si 384 17) (si 384 2).toNatClampNeg := by
      rw [w2, va_up_ne _ _ (show (65 : Nat) ≠ 324 by decide), u1, g2 75 (by decide) (by decide), e65]
      exact wlC_cg _ (fun c hc => u6 c (by rw [e65]; exact hc))
    rw [b10, b7, ← hG, s1, s2, s3, u2]
    exact i_fu _ _ _ _
  by_cases q : 0 ≤ G
  · rw [if_pos q]
    refine ⟨_, _, B, U1, rfl, b4, fun f f1 _ f3 => by rw [va_up_ne _ _ f1, va_up_ne _ _ f3], g2, ?_, b5, b8, fun hU => ?_⟩
    · rw [va_up_ne _ _ (show (324 : Nat) ≠ 321 by decide), va_up_self]; exact b9.symm
    · have eg := fund hU
      have nq : ¬ F < 0 := fun z => by
        rw [← b10, ← eg] at z
        have q1 := Int32.le_iff_toInt_le.mp q
        have q2 := Int32.lt_iff_toInt_lt.mp z
        omega
      refine ⟨by rw [va_up_self]; exact eg, fun e => ?_, by rw [b6, b10]⟩
      rw [va_up_ne _ _ (show (323 : Nat) ≠ 321 by decide), va_up_ne _ _ (show (323 : Nat) ≠ 324 by decide), e, b10, if_neg nq]
  · rw [if_neg q]
    have q1 : G < 0 := Int32.not_le.mp q
    by_cases p : I 323 = -1
    · rw [if_pos p]
      refine ⟨_, _, B, U1, rfl, b4, fun f f1 f2 f3 => by rw [va_up_ne _ _ f2, va_up_ne _ _ f1, va_up_ne _ _ f3], g2, ?_, b5, b8, fun hU => ?_⟩
      · rw [va_up_ne _ _ (show (324 : Nat) ≠ 323 by decide), va_up_ne _ _ (show (324 : Nat) ≠ 321 by decide), va_up_self]; exact b9.symm
      · have eg := fund hU
        have nq : F < 0 := by rw [← b10, ← eg]; exact q1
        exact ⟨by rw [va_up_ne _ _ (show (321 : Nat) ≠ 323 by decide), va_up_self]; exact eg, fun _ => by rw [va_up_self, b10, if_pos nq], by rw [b6, b10]⟩
    · rw [if_neg p]
      refine ⟨_, _, B, U1, rfl, b4, fun f f1 _ f3 => by rw [va_up_ne _ _ f1, va_up_ne _ _ f3], g2, ?_, b5, b8, fun hU => ?_⟩
      · rw [va_up_ne _ _ (show (324 : Nat) ≠ 321 by decide), va_up_self]; exact b9.symm
      · have eg := fund hU
        exact ⟨by rw [va_up_self]; exact eg, fun e => absurd e p, by rw [b6, b10]⟩
/-- a trial of the class beside the reference's country -/
def TRC (n : Nat) (tI : Nat → Nat → Int32) (tR : Nat → Nat → Nat → Int32) (I : Nat → Int32) (ri : Nat → Nat → Int32) (rj : Nat → Nat → Int64) (rq : Nat → Nat → Option Nat) (A : Nat → Int32) : Prop := RSL I ri A ∧ TXS I rq tI tR A ∧ FCS I ri A ∧ ARH n I ri rj A ∧ FUT I ri A
set_option maxHeartbeats 1000000 in
theorem cant_s {a0 : Int32} {n : Nat} (h6 : (I 320).toInt < 600) (hn : (I 320).toInt = (n : Int)) (h407 : U 407 = 0) (hW : TRC n tI tR I ri rj rq (si 384)) (hst : ∀ p, p < 40 → ((g_X12_month a0 U V si sj sq).2.2.1 384 (740 + 12 * p + 3) = 200 ↔ si 384 (740 + 12 * p + 3) = 200)) : ∃ (I1 : Nat → Int32) (J1 : Nat → Int64) (r1 : Nat → Nat → Int32) (l1 : Nat → Nat → Int64) (I2 : Nat → Int32) (r2 : Nat → Nat → Int32), g_X10_nature a0 I J ri rj rq = (I1, J1, r1, l1, rq) ∧ g_X10_reckon tI tR I1 J1 r1 l1 rq = (I2, J1, r2, l1, rq) ∧ I2 320 = I 320 ∧ TRC (n + 1) tI tR (va_up I2 320 (I2 320 + 1)) r2 l1 rq ((g_X12_month a0 U V si sj sq).2.2.1 384) ∧ (I 323 = -1 → I2 323 = (if (g_X12_month a0 U V si sj sq).2.2.1 384 8 < 0 then I 320 else -1)) ∧ (g_X12_month a0 U V si sj sq).1 410 = (if (g_X12_month a0 U V si sj sq).2.2.1 384 8 < 0 then 1 else 0) := by
  obtain ⟨h, hT, hF, hA, hU⟩ := hW
  have h' := h
  obtain ⟨S, eM, So, Sf, Sd, Sk, Sr⟩ := month_q (U := U) (V := V) (sj := sj) (sq := sq) (a0 := a0) h h6
  obtain ⟨I1, J1, r1, l1, en, n1, n73, n74, nr, nl, nj, nd, ⟨k, nk1, nk2⟩, nu⟩ := nature_w (I := I) (J := J) (ri := ri) (rj := rj) (rq := rq) (a0 := a0) h.1 h6
  obtain ⟨⟨⟨m0, m6⟩, ⟨c0, c4⟩, ⟨l0, l2⟩⟩, ⟨⟨r0, r5⟩, ⟨p0, p4⟩, q4⟩, ⟨e0, e1, e2, e3⟩, _, _, hld, _⟩ := h
  have cn : (I 320).toNatClampNeg = n := at_n hn
  have z65 := clampE (I 65)
  have hn6 : n < 600 := by omega
  obtain ⟨a1, a2, a3, a4⟩ := hA
  have s20 : ∀ i, i < 20 → i ≠ 9 → S 384 i = si 384 i := fun i i1 i2 => Sf i i2 (Or.inl (by omega)) (fun c k _ _ => by omega) (fun p k _ _ => by omega)
  have sCell : ∀ c k, c < 40 → k ∈ [0, 1, 2, 3, 6, 14] → S 384 (100 + 16 * c + k) = si 384 (100 + 16 * c + k) := fun c k hc hk => by
    simp only [List.mem_cons, List.not_mem_nil, or_false] at hk
    exact Sf _ (by omega) (Or.inl (by omega)) (fun c2 k2 _ hk2 => by simp only [List.mem_cons, List.not_mem_nil, or_false] at hk2; omega) (fun p k2 _ hk2 => by simp only [List.mem_cons, List.not_mem_nil, or_false] at hk2; omega)
  have sPer : ∀ p k, p < 40 → k ∈ [0, 1, 2, 3, 4, 7, 8] → S 384 (740 + 12 * p + k) = si 384 (740 + 12 * p + k) := fun p k hp hk => by
    simp only [List.mem_cons, List.not_mem_nil, or_false] at hk
    exact Sf _ (by omega) (Or.inl (by omega)) (fun c2 k2 _ hk2 => by simp only [List.mem_cons, List.not_mem_nil, or_false] at hk2; omega) (fun p2 k2 _ hk2 => by simp only [List.mem_cons, List.not_mem_nil, or_false] at hk2; omega)
  have sTx : ∀ j, zn j ∈ lzt → S 384 j = si 384 j := fun j hj => by
    rcases lz_x hj with q | q
    · rw [q]; exact s20 6 (by decide) (by decide)
    · exact Sf j (by omega) (Or.inr q) (fun c2 k2 _ hk2 => by simp only [List.mem_cons, List.not_mem_nil, or_false] at hk2; omega) (fun p2 k2 _ hk2 => by simp only [List.mem_cons, List.not_mem_nil, or_false] at hk2; omega)
  have sFc : ∀ i, 2220 ≤ i → i < 2340 → S 384 i = si 384 i := fun i i1 i2 => Sf i (by omega) (Or.inl (by omega)) (fun c2 k2 _ hk2 => by simp only [List.mem_cons, List.not_mem_nil, or_false] at hk2; omega) (fun p2 k2 _ hk2 => by simp only [List.mem_cons, List.not_mem_nil, or_false] at hk2; omega)
  have i65 : I1 65 = I 65 := n1 65 (by decide)
  have i320 : I1 320 = si 384 0 := (n1 320 (by decide)).trans e0
  have le68 : l1 68 = vp_updL (rj 68) n k := by rw [nk1, cn]
  have hTe : TXS I1 rq tI tR (S 384) := TXS_cg hT (n1 96 (by decide)) (fun _ _ => rfl) (fun _ _ _ _ => ⟨rfl, fun _ _ => rfl⟩) sTx
  have hFe : FCS I1 r1 (S 384) := FCS_cg hF (n1 98 (by decide)) (fun t ht j _ => by rw [nr t ((by decide : ∀ t, t ∈ [99, 100, 101] → t ∉ [73, 74, 76, 77, 81]) t ht)]) (s20 7 (by decide) (by decide)) sFc (by rw [s20 6 (by decide) (by decide)]; exact Int.le_refl _)
  have hAe : ARH (n + 1) I1 r1 l1 (S 384) := by
    refine ⟨?_, ?_, fun c hc => ?_, fun f hf c hc => ?_⟩
    · rw [n1 237 (by decide), s20 16 (by decide) (by decide)]; exact a1
    · rw [s20 16 (by decide) (by decide)]; exact a2
    · rw [nr 71 (by decide), nr 72 (by decide), sCell c 2 hc (by decide), sCell c 3 hc (by decide)]
      exact a3 c hc
    · rw [i65] at hc
      have c40 : c < 40 := by omega
      rw [le68]
      by_cases q : f = n
      · rw [q, vL_s, nk2 c (by omega)]
        have y := Sk c c40
        rw [cn] at y
        by_cases z : rockN a0 I ri c = true
        · rw [z, y.mpr z]
        · have z2 : rockN a0 I ri c = false := by simpa using z
          have z3 : rkA (S 384) n c = false := by
            cases z4 : rkA (S 384) n c with
            | true => exact absurd (y.mp z4) z
            | false => rfl
          rw [z2, z3]
      · rw [vL_n _ _ q, a4 f (by omega) c hc]
        unfold rkA
        rw [Sr _ (by omega) (by omega) (by rw [cn]; omega) (by rw [cn]; omega), Sr _ (by omega) (by omega) (by rw [cn]; omega) (by rw [cn]; omega)]
  have hUe : FUT I1 r1 (S 384) := by
    obtain ⟨u0, u1, u2, u5, u6⟩ := hU
    refine ⟨?_, ?_, ?_, fun p hp => ?_, fun c hc => ?_⟩
    · rw [n1 0 (by decide), s20 5 (by decide) (by decide)]; exact u0
    · rw [n1 238 (by decide), s20 17 (by decide) (by decide)]; exact u1
    · rw [n1 321 (by decide), s20 8 (by decide) (by decide)]; exact u2
    · rw [n1 0 (by decide)] at hp
      have zp := clampE (I 0)
      have p40 : p < 40 := by rw [u0] at zp hp; omega
      rw [nr 5 (by decide), nr 4 (by decide), sPer p 3 p40 (by decide), sPer p 4 p40 (by decide)]
      exact u5 p hp
    · rw [i65] at hc
      rw [nr 75 (by decide), sCell c 6 (by omega) (by decide)]
      exact u6 c hc
  obtain ⟨I2, r2, B, U1, x1, x2, x3, x4, x5, x6, x7, x8⟩ := reckon_t (I := I1) (J := J1) (ri := r1) (rj := l1) (rq := rq) (U := U) (V := V) (si := S) (sj := sj) (sq := sq) (m := si 384 0) (n := n) hTe hFe h407 i320 (by rw [← e0]; exact hn) hn6 (by rw [i65, e2, s20 2 (by decide) (by decide)]) (by rw [s20 2 (by decide) (by decide), ← e2]; exact ⟨c0, c4⟩) (by rw [s20 5 (by decide) (by decide)]; exact ⟨p0, p4⟩) hAe
  obtain ⟨w1, w2, w3⟩ := x8 hUe
  obtain ⟨U3, S3, L3, y1, y2, y3, y4⟩ := boatsGo_b (I := U1) (J := V) (ri := va_up S 384 B) (rj := sj) (rq := sq) (m := si 384 0) (by rw [va_up_self, x7 5 (by decide) (by decide) (by decide), s20 5 (by decide) (by decide)]; exact p4) (by rw [va_up_self, x7 4 (by decide) (by decide) (by decide), s20 4 (by decide) (by decide)]; exact q4)
  rw [va_up_self] at y4
  have eC : g_X12_month a0 U V si sj sq = (U3, V, va_up S3 384 (upd (S3 384) 0 (si 384 0 + 1)), L3, sq) := by rw [eM, x2, bnV_mk, y1, bnV_mk]
  have i2 : I2 320 = I 320 := (x3 320 (by decide) (by decide) (by decide)).trans (n1 320 (by decide))
  have hR : RSL (va_up I2 320 (I2 320 + 1)) r2 ((g_X12_month a0 U V si sj sq).2.2.1 384) := by
    obtain ⟨U4, s4, m4, f2, o2, z0, z4, z5, z12, zo, zk1⟩ := month_v (U := U) (V := V) (sj := sj) (sq := sq) (a0 := a0) h' h6
    rw [f2]
    refine RL_month (a0 := a0) h' h6 (fun f hf => ?_) ?_ ?_ ?_ (fun t ht => ?_) z0 z4 z5 zo
    · have d := (by decide : ∀ f, f ∈ [64, 65, 224, 234, 235, 236] → f ≠ 320 ∧ f ≠ 321 ∧ f ≠ 323 ∧ f ≠ 324 ∧ f ≠ 66) f hf
      rw [va_up_ne _ _ d.1, x3 f d.2.1 d.2.2.1 d.2.2.2.1]
      exact n1 f d.2.2.2.2
    · rw [va_up_self, i2]
    · rw [x4 73 (by decide) (by decide)]; exact n73
    · rw [x4 74 (by decide) (by decide)]; exact n74
    · have d := (by decide : ∀ t, t ∈ [69, 70, 75, 79, 225, 226, 227, 228, 229, 230, 231, 232] → t ≠ 82 ∧ t ≠ 83 ∧ t ∉ [73, 74, 76, 77, 81]) t ht
      rw [x4 t d.1 d.2.1]
      exact nr t d.2.2
  rw [eC] at hR hst ⊢
  have sB : ∀ i, i ≠ 0 → (∀ p k, p < 40 → k ∈ [3, 7] → i ≠ 740 + 12 * p + k) → va_up S3 384 (upd (S3 384) 0 (si 384 0 + 1)) 384 i = B i := fun i i1 i2 => by
    rw [va_up_self, upd_n _ _ i1]
    exact y4.1 i rfl (fun _ _ => rfl) i2
  have np : ∀ i, (i < 740 ∨ 1220 ≤ i) → ∀ p k, p < 40 → k ∈ [3, 7] → i ≠ 740 + 12 * p + k := fun i hi p k hp hk => by
    simp only [List.mem_cons, List.not_mem_nil, or_false] at hk
    omega
  have sS : ∀ i, i ≠ 0 → i ≠ 8 → i ≠ 12 → i ≠ 18 → (i < 740 ∨ 1220 ≤ i) → va_up S3 384 (upd (S3 384) 0 (si 384 0 + 1)) 384 i = S 384 i := fun i i1 i2 i3 i4 i5 => by
    rw [sB i i1 (np i i5)]
    exact x7 i i2 i3 i4
  have b8 : va_up S3 384 (upd (S3 384) 0 (si 384 0 + 1)) 384 8 = B 8 := sB 8 (by decide) (np 8 (Or.inl (by decide)))
  have f65 : va_up I2 320 (I2 320 + 1) 65 = I1 65 := (va_up_ne _ _ (by decide)).trans (x3 65 (by decide) (by decide) (by decide))
  have f0 : va_up I2 320 (I2 320 + 1) 0 = I1 0 := (va_up_ne _ _ (by decide)).trans (x3 0 (by decide) (by decide) (by decide))
  refine ⟨I1, J1, r1, l1, I2, r2, en, x1, i2, ⟨hR, ?_, ?_, ⟨?_, ?_, fun c hc => ?_, fun f hf c hc => ?_⟩, ⟨?_, ?_, ?_, fun p hp => ?_, fun c hc => ?_⟩⟩, fun e => ?_, ?_⟩
  · exact TXS_cg hTe ((va_up_ne _ _ (by decide)).trans (x3 96 (by decide) (by decide) (by decide))) (fun _ _ => rfl) (fun _ _ _ _ => ⟨rfl, fun _ _ => rfl⟩) (fun j hj => by
      rcases lz_x hj with q | q
      · rw [q]; exact sS 6 (by decide) (by decide) (by decide) (by decide) (Or.inl (by decide))
      · exact sS j (by omega) (by omega) (by omega) (by omega) (Or.inr (by omega)))
  · exact FCS_cg hFe ((va_up_ne _ _ (by decide)).trans (x3 98 (by decide) (by decide) (by decide))) (fun t ht j _ => by
      have d := (by decide : ∀ t, t ∈ [99, 100, 101] → t ≠ 82 ∧ t ≠ 83) t ht
      rw [x4 t d.1 d.2]) (sS 7 (by decide) (by decide) (by decide) (by decide) (Or.inl (by decide))) (fun i h1 h2 => sS i (by omega) (by omega) (by omega) (by omega) (Or.inr (by omega))) (by
      show (S 384 6).toInt ≤ (va_up S3 384 (upd (S3 384) 0 (si 384 0 + 1)) 384 6).toInt
      rw [sS 6 (by decide) (by decide) (by decide) (by decide) (Or.inl (by decide))]
      exact Int.le_refl _)
  · show va_up I2 320 (I2 320 + 1) 237 = va_up S3 384 (upd (S3 384) 0 (si 384 0 + 1)) 384 16
    rw [va_up_ne _ _ (show (237 : Nat) ≠ 320 by decide), x3 237 (by decide) (by decide) (by decide), sS 16 (by decide) (by decide) (by decide) (by decide) (Or.inl (by decide))]
    exact hAe.1
  · show 0 ≤ (va_up S3 384 (upd (S3 384) 0 (si 384 0 + 1)) 384 16).toInt ∧ (va_up S3 384 (upd (S3 384) 0 (si 384 0 + 1)) 384 16).toInt ≤ 20
    rw [sS 16 (by decide) (by decide) (by decide) (by decide) (Or.inl (by decide))]
    exact hAe.2.1
  · show r2 71 c = va_up S3 384 (upd (S3 384) 0 (si 384 0 + 1)) 384 (100 + 16 * c + 2) ∧ r2 72 c = va_up S3 384 (upd (S3 384) 0 (si 384 0 + 1)) 384 (100 + 16 * c + 3) ∧ (0 ≤ (va_up S3 384 (upd (S3 384) 0 (si 384 0 + 1)) 384 (100 + 16 * c + 2)).toInt ∧ (va_up S3 384 (upd (S3 384) 0 (si 384 0 + 1)) 384 (100 + 16 * c + 2)).toInt ≤ 31) ∧ (0 ≤ (va_up S3 384 (upd (S3 384) 0 (si 384 0 + 1)) 384 (100 + 16 * c + 3)).toInt ∧ (va_up S3 384 (upd (S3 384) 0 (si 384 0 + 1)) 384 (100 + 16 * c + 3)).toInt ≤ 31)
    rw [x4 71 (by decide) (by decide), x4 72 (by decide) (by decide), sS _ (by omega) (by omega) (by omega) (by omega) (Or.inl (by omega)), sS _ (by omega) (by omega) (by omega) (by omega) (Or.inl (by omega))]
    exact hAe.2.2.1 c hc
  · have hc2 : c < (I1 65).toNatClampNeg := by
      have hc3 : c < (va_up I2 320 (I2 320 + 1) 65).toNatClampNeg := hc
      rw [f65] at hc3
      exact hc3
    have c40 : c < 40 := by rw [i65] at hc2; omega
    show hb (l1 68 f) c = rkA (va_up S3 384 (upd (S3 384) 0 (si 384 0 + 1)) 384) f c
    rw [hAe.2.2.2 f hf c hc2]
    unfold rkA
    rw [sS _ (by omega) (by omega) (by omega) (by omega) (Or.inr (by omega)), sS _ (by omega) (by omega) (by omega) (by omega) (Or.inr (by omega))]
  · show va_up I2 320 (I2 320 + 1) 0 = va_up S3 384 (upd (S3 384) 0 (si 384 0 + 1)) 384 5
    rw [f0, sS 5 (by decide) (by decide) (by decide) (by decide) (Or.inl (by decide))]
    exact hUe.1
  · show va_up I2 320 (I2 320 + 1) 238 = va_up S3 384 (upd (S3 384) 0 (si 384 0 + 1)) 384 17
    rw [va_up_ne _ _ (show (238 : Nat) ≠ 320 by decide), x3 238 (by decide) (by decide) (by decide), sS 17 (by decide) (by decide) (by decide) (by decide) (Or.inl (by decide))]
    exact hUe.2.1
  · show va_up I2 320 (I2 320 + 1) 321 = va_up S3 384 (upd (S3 384) 0 (si 384 0 + 1)) 384 8
    rw [va_up_ne _ _ (show (321 : Nat) ≠ 320 by decide), b8]
    exact w1
  · have hp2 : p < (I 0).toNatClampNeg := by
      have hp3 : p < (va_up I2 320 (I2 320 + 1) 0).toNatClampNeg := hp
      rw [f0, n1 0 (by decide)] at hp3
      exact hp3
    have zp := clampE (I 0)
    have u0 := hU.1
    have p40 : p < 40 := by rw [u0] at zp hp2; omega
    show (r2 5 p = 200 ↔ va_up S3 384 (upd (S3 384) 0 (si 384 0 + 1)) 384 (740 + 12 * p + 3) = 200) ∧ r2 4 p = va_up S3 384 (upd (S3 384) 0 (si 384 0 + 1)) 384 (740 + 12 * p + 4)
    rw [x4 5 (by decide) (by decide), x4 4 (by decide) (by decide), nr 5 (by decide), nr 4 (by decide)]
    refine ⟨(hU.2.2.2.1 p hp2).1.trans (hst p p40).symm, ?_⟩
    rw [sB (740 + 12 * p + 4) (by omega) (fun p2 k2 _ hk2 => by simp only [List.mem_cons, List.not_mem_nil, or_false] at hk2; omega), x7 _ (by omega) (by omega) (by omega), sPer p 4 p40 (by decide)]
    exact (hU.2.2.2.1 p hp2).2
  · have hc2 : c < (I1 65).toNatClampNeg := by
      have hc3 : c < (va_up I2 320 (I2 320 + 1) 65).toNatClampNeg := hc
      rw [f65] at hc3
      exact hc3
    have c40 : c < 40 := by rw [i65] at hc2; omega
    show r2 75 c = va_up S3 384 (upd (S3 384) 0 (si 384 0 + 1)) 384 (100 + 16 * c + 6)
    rw [x4 75 (by decide) (by decide), sS _ (by omega) (by omega) (by omega) (by omega) (Or.inl (by omega))]
    exact hUe.2.2.2.2 c hc2
  · show I2 323 = (if va_up S3 384 (upd (S3 384) 0 (si 384 0 + 1)) 384 8 < 0 then I 320 else -1)
    rw [b8, e0]
    exact w2 ((n1 323 (by decide)).trans e)
  · show U3 410 = (if va_up S3 384 (upd (S3 384) 0 (si 384 0 + 1)) 384 8 < 0 then 1 else 0)
    rw [b8]
    exact (y2 410 (by decide)).trans w3
theorem cant_L {a0 a1 : Int32} (h60 : a1.toInt ≤ 60) {rqT : Nat → Nat → Option Nat} : ∀ (n : Nat) (x v : Int32) (IT : Nat → Int32) (JT : Nat → Int64) (rT : Nat → Nat → Int32) (lT : Nat → Nat → Int64) (I : Nat → Int32) (J : Nat → Int64) (ri : Nat → Nat → Int32) (rj : Nat → Nat → Int64) (U : Nat → Int32) (si : Nat → Nat → Int32) (sj : Nat → Nat → Int64), 0 ≤ x.toInt → x.toInt ≤ a1.toInt → (60 - x.toInt).toNat < n → (IT 320).toInt + (a1.toInt - x.toInt) ≤ 600 → TRC (IT 320).toNatClampNeg tI tR IT rT lT rqT (si 384) → WLD tI tR I J ri rj rq U (si 384) → IT 323 = v → (v = -1 ∨ 0 ≤ v.toInt) → (g_X11_cant_L34 a0 a1 tI tR rqT n x IT JT rT lT).1 = (g_X12_cant_L29 a0 a1 V sq n v x U si sj).1 := by
  have k0 : (0 : Int32).toInt = 0 := by decide
  have km : (-1 : Int32).toInt = -1 := by decide
  intro n
  induction n with
  | zero => intro x _ _ _ _ _ _ _ _ _ _ _ _ _ _ h; exact absurd h (Nat.not_lt_zero _)
  | succ n ih =>
    intro x v IT JT rT lT I J ri rj U si sj h1 h2 h3 h4 hW hG e323 hv
    rw [g_X11_cant_L34_e, g_X12_cant_L29_e]
    by_cases d : a1 ≤ x
    · rw [if_pos d, if_pos d, g_X11_cant_K84_e, g_X12_cant_K67_e]
      simp only [↓ap1_n]
      exact e323
    · have d1 := Int32.lt_iff_toInt_lt.mp (Int32.not_le.mp d)
      rw [if_neg d, if_neg d]
      simp only [↓ap1_n]
      rw [e323]
      by_cases q : v = -1
      · have nq : ¬ (0 : Int32) ≤ v := fun y => by
          have := Int32.le_iff_toInt_le.mp y
          rw [q, k0, km] at this
          omega
        rw [if_pos q, if_neg nq]
        have b := hW.1.1.1
        have e0 : IT 320 = si 384 0 := hW.1.2.2.1.1
        have hG' := hG
        obtain ⟨g1, g2, g3, g4, g5⟩ := hG'
        obtain ⟨⟨wA, wL⟩, wF, ⟨wK, wS, wH⟩, wD, wB⟩ := g5
        have ec : I 320 = IT 320 := g1.2.2.1.1.trans e0.symm
        have hn : (IT 320).toInt = ((IT 320).toNatClampNeg : Int) := by
          have z := clampE (IT 320)
          omega
        have hnG : (I 320).toInt = ((I 320).toNatClampNeg : Int) := by
          have z := clampE (I 320)
          rw [ec] at z ⊢
          omega
        have h6 : (IT 320).toInt < 600 := by omega
        have h6G : (I 320).toInt < 600 := by rw [ec]; exact h6
        obtain ⟨_, _, _, _, _, st⟩ := goBy_F (J := J) (V := V) (sj := sj) (sq := sq) (a0 := a0) g1 h6G hnG g2 g3 g4 wA wK wS wB
        have wr := month_R (J := J) (rj := rj) (rq := rq) (U := U) (V := V) (sj := sj) (sq := sq) (tI := tI) (tR := tR) (a0 := a0) g1 h6G
        obtain ⟨y1, y2, y3, y4⟩ := month_W (J := J) (rj := rj) (V := V) (sj := sj) (sq := sq) (a0 := a0) g1 h6G g2 g3 g4 hG.2.2.2.2 wr
        obtain ⟨I1, J1, r1, l1, I2, r2, c1, c2, c3, c4, c5, c6⟩ := cant_s (J := JT) (V := V) (sj := sj) (sq := sq) (a0 := a0) h6 hn g4 hW st
        have fb := g_X10_goBy_f (tI := tI) (tR := tR) (a0 := a0) (I := I) (J := J) (ri := ri) (rj := rj) (rq := rq)
        have fm := g_X12_month_f (a0 := a0) (I := U) (J := V) (ri := si) (rj := sj) (rq := sq)
        have c0 : (g_X12_month a0 U V si sj sq).2.2.1 384 0 = si 384 0 + 1 := by
          obtain ⟨U4, s4, m4, f2, o2, z0, _⟩ := month_v (U := U) (V := V) (sj := sj) (sq := sq) (a0 := a0) g1 h6G
          rw [f2]
          exact z0
        have e' := t1_inc (x := x) (by omega) (by omega)
        have t320 : (va_up I2 320 (I2 320 + 1) 320).toInt = (IT 320).toInt + 1 := by
          rw [va_up_self, c3]
          exact t1_one (by omega) (by omega)
        have tn : (va_up I2 320 (I2 320 + 1) 320).toNatClampNeg = (IT 320).toNatClampNeg + 1 := by
          have z := clampE (IT 320)
          have z2 := clampE (va_up I2 320 (I2 320 + 1) 320)
          omega
        have t323 : va_up I2 320 (I2 320 + 1) 323 = I2 323 := va_up_ne _ _ (by decide)
        rw [c1, bnV_mk, c2, bnV_mk]
        generalize g_X10_goBy tI tR a0 I J ri rj rq = gb at wr y1 y2 y3 fb
        generalize g_X12_month a0 U V si sj sq = c at wr y1 y2 y3 y4 fm c0 c4 c5 c6 ⊢
        obtain ⟨Ig, Jg, rg', lg, qg⟩ := gb
        obtain ⟨U1, V1, s1, m1, n1⟩ := c
        have eq1 : qg = rq := funext (fun t => fb.2.2.2.2 t (fun y => by cases (show t ∈ ([] : List Nat) from y)))
        have eV : V1 = V := funext (fun t => fm.2.1 t (fun y => by cases (show t ∈ ([] : List Nat) from y)))
        have en : n1 = sq := funext (fun t => fm.2.2.2.2 t (fun y => by cases (show t ∈ ([] : List Nat) from y)))
        subst eq1 eV en
        rw [bnV_mk]
        have hG2 : WLD tI tR Ig Jg rg' lg qg U1 (s1 384) := ⟨wr, y2, y3, y4, y1⟩
        have hW2 : TRC (va_up I2 320 (I2 320 + 1) 320).toNatClampNeg tI tR (va_up I2 320 (I2 320 + 1)) r2 l1 rqT (s1 384) := by
          rw [tn]
          exact c4
        have c5' := c5 (e323.trans q)
        have c6' : U1 410 = (if s1 384 8 < 0 then 1 else 0) := c6
        have c5q : I2 323 = (if s1 384 8 < 0 then IT 320 else -1) := c5'
        by_cases z : s1 384 8 < 0
        · rw [if_pos z] at c6' c5q
          rw [if_pos c6', g_X12_cant_K61_e]
          have ev : s1 384 (0 : Int32).toNatClampNeg - 1 = IT 320 := by
            have c0' : s1 384 0 = si 384 0 + 1 := c0
            rw [show (0 : Int32).toNatClampNeg = 0 from by decide, c0', ← e0]
            exact Int32.toInt_inj.mp (by rw [i_sub (t1_one (by omega) (by omega)) (show (1 : Int32).toInt = 1 by decide) (by omega) (by omega)]; omega)
          simp only [↓ap1_n]
          rw [ev]
          exact ih (x + Int32.ofInt 1) (IT 320) _ J1 r2 l1 Ig Jg rg' lg U1 s1 m1 (by omega) (by omega) (by omega) (by rw [t320]; omega) hW2 hG2 (t323.trans c5q) (Or.inr b.1)
        · rw [if_neg z] at c6' c5q
          rw [if_neg (show ¬ U1 410 = 1 by rw [c6']; decide), g_X12_cant_K61_e]
          simp only [↓ap1_n]
          exact ih (x + Int32.ofInt 1) v _ J1 r2 l1 Ig Jg rg' lg U1 s1 m1 (by omega) (by omega) (by omega) (by rw [t320]; omega) hW2 hG2 (by rw [t323, c5q, q]) hv
      · have v0 : 0 ≤ v.toInt := hv.resolve_left q
        rw [if_neg q, if_pos (show (0 : Int32) ≤ v from Int32.le_iff_toInt_le.mpr (by rw [k0]; exact v0)), g_X11_cant_K84_e, g_X12_cant_K67_e]
        simp only [↓ap1_n]
        exact e323
/-- cant -/
theorem cant_v {a0 a1 : Int32} (h : WLD tI tR nI nJ nR nL nQ U (si 384)) : (g_X11_cant nI nJ nR nL nQ tI tR a0 a1 I J ri rj rq).1 = (g_X12_cant a0 a1 U V si sj sq).1 := by
  have k0 : (0 : Int32).toInt = 0 := by decide
  have h' := h
  obtain ⟨g1, g2, g3, g4, ⟨⟨wA, wL⟩, wF, ⟨wK, wS, wH⟩, wD, wB⟩⟩ := h'
  obtain ⟨v, c1, c2, c3⟩ := canTime (a0 := a1) (a1 := a0) (J := nJ) (rj := nL) (rq := nQ) (U := U) (V := V) (sj := sj) (sq := sq) g1
  rw [g_X11_cant_e, g_X12_cant_e, c1, c2, bnI_mk, bnI_mk]
  by_cases q : v = 0
  · simp only [if_pos q]
  · simp only [if_neg q, ↓ap1_n]
    obtain ⟨b1, b2, b3, b4, b5⟩ := c3 q
    have qc : QC nI nR (g_X10_copyFrom nI nJ nR nL nQ I J ri rj rq) := copyFrom_v
    have qx : QX nI nR nQ (g_X10_copyFrom nI nJ nR nL nQ I J ri rj rq) := copyFrom_x
    have qw : QW nI nJ nR nL (g_X10_copyFrom nI nJ nR nL nQ I J ri rj rq) := copyFrom_w
    generalize g_X10_copyFrom nI nJ nR nL nQ I J ri rj rq = p at qc qx qw ⊢
    obtain ⟨I1, J1, r1, l1, q1⟩ := p
    rw [bnV_mk]
    have s384 : va_up si 386 (va_cpy (si 384) (si 386) 0 0 12720) 384 = si 384 := va_up_ne _ _ (by decide)
    have o : ∀ f, f ≠ 323 → va_up I1 323 (-1) f = I1 f := fun f hf => va_up_ne _ _ hf
    have w320 : I1 320 = nI 320 := qw.1 320 (by decide)
    have bn := bnd_of g1
    have r40 : ∀ t, t ∈ [1, 2, 3, 4, 5, 9, 11, 71, 72, 77, 325] → ∀ j, j < lnw t → r1 t j = nR t j := qw.2.2.1
    have hR : RSL (va_up I1 323 (-1)) r1 (si 384) := by
      have hR1 : RSL I1 r1 (si 384) := RL_copy g1 qc (fun _ _ => rfl) g1.2.1
      exact RL_cg hR1 (fun f hf => o f ((by decide : ∀ f, f ∈ [64, 65, 224, 234, 235, 236, 320] → f ≠ 323) f hf)) (fun _ _ _ _ => rfl) (fun _ _ _ _ => rfl) (fun _ _ _ _ => rfl) (fun _ _ => rfl) g1.2.1
    have hT : TXS (va_up I1 323 (-1)) q1 tI tR (si 384) := TXS_cg g2 ((o 96 (by decide)).trans qx.1) qx.2.2.2 (fun _ _ _ _ => ⟨rfl, fun _ _ => rfl⟩) (fun _ _ => rfl)
    have hF : FCS (va_up I1 323 (-1)) r1 (si 384) := FCS_cg g3 ((o 98 (by decide)).trans qx.2.1) qx.2.2.1 rfl (fun _ _ _ => rfl) (Int.le_refl _)
    have hA : ARH (va_up I1 323 (-1) 320).toNatClampNeg (va_up I1 323 (-1)) r1 l1 (si 384) := by
      have h1 := dAR nI nJ nR nL (si 384) (va_up I1 323 (-1)) J1 r1 l1 (si 384) bn ⟨wA, wL⟩ (fun f hf => (o f ((by decide : ∀ f, f ∈ [65, 320, 237, 324] → f ≠ 323) f hf)).trans (qw.1 f ((by decide : ∀ f, f ∈ [65, 320, 237, 324] → f ∈ [65, 320, 237, 238, 321, 322, 323, 324, 0, 10]) f hf))) qw.2.1 (fun t ht j hj => r40 t ((by decide : ∀ t, t ∈ [71, 72] → t ∈ [1, 2, 3, 4, 5, 9, 11, 71, 72, 77, 325]) t ht) j hj) qw.2.2.2 (fun _ _ => rfl)
      exact h1.1
    have hU : FUT (va_up I1 323 (-1)) r1 (si 384) := by
      obtain ⟨f1, f2, f3, f4⟩ := wF
      obtain ⟨i0, ⟨n0, n40⟩, kp⟩ := wK
      have x0 : va_up I1 323 (-1) 0 = nI 0 := (o 0 (by decide)).trans (qw.1 0 (by decide))
      have x65 : va_up I1 323 (-1) 65 = nI 65 := (o 65 (by decide)).trans (qw.1 65 (by decide))
      refine ⟨x0.trans i0, ((o 238 (by decide)).trans (qw.1 238 (by decide))).trans f1, ((o 321 (by decide)).trans (qw.1 321 (by decide))).trans f2, fun p hp => ?_, fun c hc => ?_⟩
      · rw [x0, i0] at hp
        have zp := clampE (si 384 5)
        have p40 : p < 40 := by omega
        rw [r40 5 (by decide) p (lnw_40 (by decide) p40), r40 4 (by decide) p (lnw_40 (by decide) p40)]
        obtain ⟨⟨_, _, _, k4, k5, _⟩, _⟩ := kp p p40
        rw [k4, k5]
        exact ⟨Iff.rfl, rfl⟩
      · rw [x65] at hc
        have c40 : c < 40 := Nat.lt_of_lt_of_le hc bn.2
        have e75 : r1 75 c = nR 75 c := qc.2.2.2 75 (by decide) c c40
        rw [e75]
        exact ((g1.2.2.2.2.2.1 c c40).2.2.2.2.1).symm
    exact cant_L (rqT := q1) (V := V) (sq := sq) b4 ((60 - (0 : Int32).toInt).toNat + 1) 0 (-1) (va_up I1 323 (-1)) J1 r1 l1 nI nJ nR nL U _ sj (by omega) (by omega) (by omega) (by rw [o 320 (by decide), w320]; omega) (by rw [s384]; exact ⟨hR, hT, hF, hA, hU⟩) (by rw [s384]; exact h) (va_up_self _ _ _) (Or.inl rfl)
end PK19
