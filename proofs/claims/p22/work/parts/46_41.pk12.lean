/-! ===== pure: a month, both sides: PERSONS, LOTS, TITLES (behind pk11 and pu24) ===== -/
section PK12
variable {I : Nat → Int32} {J : Nat → Int64} {ri : Nat → Nat → Int32} {rj : Nat → Nat → Int64} {rq : Nat → Nat → Option Nat}
variable {U : Nat → Int32} {V : Nat → Int64} {si : Nat → Nat → Int32} {sj : Nat → Nat → Int64} {sq : Nat → Nat → Option Nat}
variable {tI : Nat → Nat → Int32} {tR : Nat → Nat → Nat → Int32}
/-- what a month leaves of PERSONS, LOTS, TITLES -/
def FMR (I : Nat → Int32) (ri : Nat → Nat → Int32) (A : Nat → Int32) (b c : vM) : Prop := FLK b.1 b.2.2.1 (c.2.2.1 384) ∧ LTS b.1 b.2.2.1 (c.2.2.1 384) ∧ b.1 322 = c.2.2.1 384 11 ∧ (HLD I ri A → HLD b.1 b.2.2.1 (c.2.2.1 384)) ∧ (∀ i, (i = 6 ∨ i = 7 ∨ i = 16 ∨ i = 17 ∨ (2220 ≤ i ∧ i < 2340) ∨ 3720 ≤ i) → c.2.2.1 384 i = A i) ∧ ∀ p, p < 40 → (c.2.2.1 384 (740 + 12 * p + 3) = 200 ↔ A (740 + 12 * p + 3) = 200)
set_option maxHeartbeats 1000000 in
theorem goBy_F {a0 : Int32} {n : Nat} (h : RSL I ri (si 384)) (h6 : (I 320).toInt < 600) (hn : (I 320).toInt = (n : Int)) (hT : TXS I rq tI tR (si 384)) (hF : FCS I ri (si 384)) (h407 : U 407 = 0) (hA : ARH n I ri rj (si 384)) (hK : FLK I ri (si 384)) (hL : LTS I ri (si 384)) (h322 : I 322 = si 384 11) : FMR I ri (si 384) (g_X10_goBy tI tR a0 I J ri rj rq) (g_X12_month a0 U V si sj sq) := by
  obtain ⟨S, eM, So, Sf, Sd, Sk, Sr⟩ := month_q (U := U) (V := V) (sj := sj) (sq := sq) (a0 := a0) h h6
  obtain ⟨I1, J1, r1, l1, en, n1, n73, n74, nr, nl, nj, nd, ⟨k, nk1, nk2⟩, nu⟩ := nature_w (I := I) (J := J) (ri := ri) (rj := rj) (rq := rq) (a0 := a0) h.1 h6
  obtain ⟨⟨⟨m0, m6⟩, ⟨c0, c4⟩, ⟨l0, l2⟩⟩, ⟨⟨r0, r5⟩, ⟨p0, p4⟩, q4⟩, ⟨e0, e1, e2, e3⟩, _, _, hld, _⟩ := h
  have k6 : (600 : Int32).toInt = 600 := by decide
  have nm : ∀ f : Nat, f ∉ ([] : List Nat) := fun f x => by cases x
  have cn : (I 320).toNatClampNeg = n := at_n hn
  have z65 := clampE (I 65)
  have hn6 : n < 600 := by omega
  obtain ⟨a1, a2, a3, a4⟩ := hA
  have s20 : ∀ i, i < 20 → i ≠ 9 → S 384 i = si 384 i := fun i i1 i2 => Sf i i2 (Or.inl (by omega)) (fun c k _ _ => by omega) (fun p k _ _ => by omega)
  have sCell : ∀ c k, c < 40 → k ∈ [0, 1, 2, 3, 6, 14] → S 384 (100 + 16 * c + k) = si 384 (100 + 16 * c + k) := fun c k hc hk => by
    simp only [List.mem_cons, List.not_mem_nil, or_false] at hk
    exact Sf _ (by omega) (Or.inl (by omega)) (fun c2 k2 _ hk2 => by simp only [List.mem_cons, List.not_mem_nil, or_false] at hk2; omega) (fun p k2 _ hk2 => by simp only [List.mem_cons, List.not_mem_nil, or_false] at hk2; omega)
  have sPer : ∀ p k, p < 40 → k ∈ [0, 1, 2, 3, 4, 7, 8] → S 384 (740 + 12 * p + k) = si 384 (740 + 12 * p + k) := fun p k hp hk => by
    simp only [List.mem_cons, List.not_mem_nil, or_false] at hk
    exact Sf _ (by omega) (Or.inl (by omega)) (fun c2 k2 _ hk2 => by simp only [List.mem_cons, List.not_mem_nil, or_false] at hk2; omega) (fun p2 k2 _ hk2 => by simp only [List.mem_cons, List.not_mem_nil, or_false] at hk2; omega)
  have sTx : ∀ j, zn j ∈ lzt → S 384 j = si 384 j := fun j hj => by
    rcases lz_x hj with q | q
    · rw [q]; exact s20 6 (by decide) (by decide)
    · exact Sf j (by omega) (Or.inr q) (fun c2 k2 _ hk2 => by simp only [List.mem_cons, List.not_mem_nil, or_false] at hk2; omega) (fun p2 k2 _ hk2 => by simp only [List.mem_cons, List.not_mem_nil, or_false] at hk2; omega)
  have sFc : ∀ i, 2220 ≤ i → i < 2340 → S 384 i = si 384 i := fun i i1 i2 => Sf i (by omega) (Or.inl (by omega)) (fun c2 k2 _ hk2 => by simp only [List.mem_cons, List.not_mem_nil, or_false] at hk2; omega) (fun p2 k2 _ hk2 => by simp only [List.mem_cons, List.not_mem_nil, or_false] at hk2; omega)
  have key : ∀ b : vM, b = g_X10_goBy tI tR a0 I J ri rj rq → FMR I ri (si 384) b (g_X12_month a0 U V si sj sq) := by
    intro b eb
    rw [g_X10_goBy_e] at eb
    simp only [↓ap1_n] at eb
    rw [if_pos (Int32.lt_iff_toInt_lt.mpr (by rw [k6]; exact h6)), en, bnV_mk] at eb
    rw [eb]
    clear eb b
    refine bV_of (P := fun b => FMR I ri (si 384) b (g_X12_month a0 U V si sj sq)) g_X9_fillUp_f (fun _ _ ra _ _ h1 => ?_)
    refine bV_of (P := fun b => FMR I ri (si 384) b (g_X12_month a0 U V si sj sq)) g_X2_countBeds_332_f (fun _ _ rb _ _ h2 => ?_)
    refine bI_of (P := fun b => FMR I ri (si 384) b (g_X12_month a0 U V si sj sq)) g_X0_drink_f (fun _ _ _ rc _ _ h3 => ?_)
    refine bI_of (P := fun b => FMR I ri (si 384) b (g_X12_month a0 U V si sj sq)) g_X0_sleep_332_f (fun _ _ _ re _ _ h4 => ?_)
    have eR : ∀ t, t ∉ [289, 290, 332, 6, 12, 7] → re t = r1 t := fun t ht => by
      simp only [List.mem_cons, List.not_mem_nil, or_false, not_or] at ht
      have g4 : re t = rc t := h4.2.2.1 t (fun x => by
        have y : t ∈ ([7, 12] : List Nat) := x
        simp only [List.mem_cons, List.not_mem_nil, or_false] at y
        omega)
      have g3 : rc t = rb t := h3.2.2.1 t (fun x => by
        have y : t ∈ ([6, 12, 289] : List Nat) := x
        simp only [List.mem_cons, List.not_mem_nil, or_false] at y
        omega)
      have g2 : rb t = ra t := h2.2.2.1 t (fun x => by
        have y : t ∈ ([332] : List Nat) := x
        simp only [List.mem_cons, List.not_mem_nil, or_false] at y
        omega)
      have g1 : ra t = r1 t := h1.2.2.1 t (fun x => by
        have y : t ∈ ([289, 290] : List Nat) := x
        simp only [List.mem_cons, List.not_mem_nil, or_false] at y
        omega)
      exact ((g4.trans g3).trans g2).trans g1
    have eRi : ∀ t, t ∉ [289, 290, 332, 6, 12, 7, 73, 74, 76, 77, 81] → re t = ri t := fun t ht => by
      simp only [List.mem_cons, List.not_mem_nil, or_false, not_or] at ht
      rw [eR t (by simp only [List.mem_cons, List.not_mem_nil, or_false, not_or]; omega)]
      exact nr t (by simp only [List.mem_cons, List.not_mem_nil, or_false, not_or]; omega)
    have i65 : I1 65 = I 65 := n1 65 (by decide)
    have i320 : I1 320 = si 384 0 := (n1 320 (by decide)).trans e0
    have le68 : l1 68 = vp_updL (rj 68) n k := by rw [nk1, cn]
    have hTe : TXS I1 rq tI tR (S 384) := TXS_cg hT (n1 96 (by decide)) (fun _ _ => rfl) (fun _ _ _ _ => ⟨rfl, fun _ _ => rfl⟩) sTx
    have hFe : FCS I1 re (S 384) := FCS_cg hF (n1 98 (by decide)) (fun t ht j _ => by rw [eRi t ((by decide : ∀ t, t ∈ [99, 100, 101] → t ∉ [289, 290, 332, 6, 12, 7, 73, 74, 76, 77, 81]) t ht)]) (s20 7 (by decide) (by decide)) sFc (by rw [s20 6 (by decide) (by decide)]; exact Int.le_refl _)
    have hAe : ARH (n + 1) I1 re l1 (S 384) := by
      refine ⟨?_, ?_, fun c hc => ?_, fun f hf c hc => ?_⟩
      · rw [n1 237 (by decide), s20 16 (by decide) (by decide)]; exact a1
      · rw [s20 16 (by decide) (by decide)]; exact a2
      · rw [eRi 71 (by decide), eRi 72 (by decide), sCell c 2 hc (by decide), sCell c 3 hc (by decide)]
        exact a3 c hc
      · rw [i65] at hc
        have c40 : c < 40 := by omega
        rw [le68]
        by_cases q : f = n
        · rw [q, vL_s, nk2 c (by omega)]
          have y := Sk c c40
          rw [cn] at y
          by_cases z : rockN a0 I ri c = true
          · rw [z, y.mpr z]
          · have z2 : rockN a0 I ri c = false := by simpa using z
            have z3 : rkA (S 384) n c = false := by
              cases z4 : rkA (S 384) n c with
              | true => exact absurd (y.mp z4) z
              | false => rfl
            rw [z2, z3]
        · rw [vL_n _ _ q, a4 f (by omega) c hc]
          unfold rkA
          rw [Sr _ (by omega) (by omega) (by rw [cn]; omega) (by rw [cn]; omega), Sr _ (by omega) (by omega) (by rw [cn]; omega) (by rw [cn]; omega)]
    obtain ⟨I2, r2, B, U1, x1, x2, x3, x4, x5, x6, x7, x8⟩ := reckon_sim (I := I1) (J := J1) (ri := re) (rj := l1) (rq := rq) (U := U) (V := V) (si := S) (sj := sj) (sq := sq) (m := si 384 0) (n := n) hTe hFe h407 i320 (by rw [← e0]; exact hn) hn6 (by rw [i65, e2, s20 2 (by decide) (by decide)]) (by rw [s20 2 (by decide) (by decide), ← e2]; exact ⟨c0, c4⟩) (by rw [s20 5 (by decide) (by decide)]; exact ⟨p0, p4⟩) hAe
    rw [x1, bnV_mk]
    have i2 : ∀ f, f ≠ 321 → f ≠ 323 → f ≠ 324 → f ≠ 66 → I2 f = I1 f := fun f h1 h2 h3 _ => x3 f h1 h2 h3
    have e320 : I2 320 = si 384 0 := (x3 320 (by decide) (by decide) (by decide)).trans i320
    have bS : ∀ i, i ≠ 8 → i ≠ 12 → i ≠ 18 → va_up S 384 B 384 i = S 384 i := fun i h1 h2 h3 => by rw [va_up_self]; exact x7 i h1 h2 h3
    have rr : ∀ t, t ∉ [289, 290, 332, 6, 12, 7, 73, 74, 76, 77, 81, 82, 83] → r2 t = ri t := fun t ht => by
      simp only [List.mem_cons, List.not_mem_nil, or_false, not_or] at ht
      rw [x4 t (by omega) (by omega)]
      exact eRi t (by simp only [List.mem_cons, List.not_mem_nil, or_false, not_or]; omega)
    have hT2 : TXS I2 rq tI tR (va_up S 384 B 384) := TXS_cg hTe (x3 96 (by decide) (by decide) (by decide)) (fun _ _ => rfl) (fun _ _ _ _ => ⟨rfl, fun _ _ => rfl⟩) (fun j hj => bS j (lz_8 hj).1 (lz_8 hj).2.1 (lz_8 hj).2.2)
    have hF2 : FCS I2 r2 (va_up S 384 B 384) := FCS_cg hFe (x3 98 (by decide) (by decide) (by decide)) (fun t ht j _ => by rw [x4 t ((by decide : ∀ t, t ∈ [99, 100, 101] → t ≠ 82) t ht) ((by decide : ∀ t, t ∈ [99, 100, 101] → t ≠ 83) t ht)]) (bS 7 (by decide) (by decide) (by decide)) (fun i h1 h2 => bS i (by omega) (by omega) (by omega)) (by rw [bS 6 (by decide) (by decide) (by decide)]; exact Int.le_refl _)
    have hK2 : FLK I2 r2 (va_up S 384 B 384) := FLK_cg hK ((x3 0 (by decide) (by decide) (by decide)).trans (n1 0 (by decide))) (fun t ht p _ => by rw [rr t ((by decide : ∀ t, t ∈ [1, 2, 3, 4, 5, 9] → t ∉ [289, 290, 332, 6, 12, 7, 73, 74, 76, 77, 81, 82, 83]) t ht)]) ((bS 5 (by decide) (by decide) (by decide)).trans (s20 5 (by decide) (by decide))) (fun p k hp hk => by
      rw [bS _ (by omega) (by omega) (by omega)]
      exact sPer p k hp ((by decide : ∀ k, k ∈ [0, 1, 2, 3, 4, 8] → k ∈ [0, 1, 2, 3, 4, 7, 8]) k hk))
    have hL2 : LTS I2 r2 (va_up S 384 B 384) := LTS_cg hL ((x3 10 (by decide) (by decide) (by decide)).trans (n1 10 (by decide))) (fun l _ => by rw [rr 11 (by decide)]) ((bS 4 (by decide) (by decide) (by decide)).trans (s20 4 (by decide) (by decide))) (fun l hl => by
      rw [bS _ (by omega) (by omega) (by omega)]
      exact Sf _ (by omega) (Or.inl (by omega)) (fun c2 k2 _ hk2 => by omega) (fun p2 k2 _ hk2 => by omega))
    have h3222 : I2 322 = va_up S 384 B 384 11 := by
      rw [bS 11 (by decide) (by decide) (by decide), s20 11 (by decide) (by decide), x3 322 (by decide) (by decide) (by decide), n1 322 (by decide)]
      exact h322
    obtain ⟨R', s', U', m', f1, f2, f3, f4, f5, f6⟩ := boats_F (I := I2) (J := J1) (ri := r2) (rj := l1) (rq := rq) (U := U1) (V := V) (si := va_up S 384 B) (sj := sj) (sq := sq) (tI := tI) (tR := tR) (mo := I2 320) (k := g_X10_goBy_K174 rq J1 l1 I2) hT2 hF2 hK2 hL2 h3222 ⟨by rw [e320, ← e0]; omega, by rw [e320, ← e0]; omega⟩ ((x6 407 (by decide)).trans h407)
    rw [e320] at f2
    have eC : g_X12_month a0 U V si sj sq = (U', V, va_up s' 384 (upd (s' 384) 0 (si 384 0 + 1)), m', sq) := by rw [eM, x2, bnV_mk, f2, bnV_mk]
    rw [eC]
    have cell : ∀ i, i ≠ 0 → (∀ q k, q < 40 → k ∈ [3, 7] → i ≠ 740 + 12 * q + k) → va_up s' 384 (upd (s' 384) 0 (si 384 0 + 1)) 384 i = va_up S 384 B 384 i := fun i h1 h2 => by
      rw [va_up_self, upd_n _ _ h1]
      exact f5 i h2
    have np : ∀ i, (i < 740 ∨ 1220 ≤ i) → ∀ p k, p < 40 → k ∈ [3, 7] → i ≠ 740 + 12 * p + k := fun i hi p k hp hk => by
      simp only [List.mem_cons, List.not_mem_nil, or_false] at hk
      omega
    have fin : ∀ b : vM, b = g_X10_goBy_K174 rq J1 l1 I2 R' → FMR I ri (si 384) b (U', V, va_up s' 384 (upd (s' 384) 0 (si 384 0 + 1)), m', sq) := fun b hb => by
      rw [g_X10_goBy_K174_e] at hb
      simp only [↓ap1_n] at hb
      rw [hb]
      refine ⟨FLK_cg f3 (va_up_ne I2 (I2 320 + 1) (show (0 : Nat) ≠ 320 by decide)) (fun _ _ _ _ => rfl) ?_ (fun p k hp hk => ?_), LTS_cg hL2 (va_up_ne I2 (I2 320 + 1) (show (10 : Nat) ≠ 320 by decide)) (fun l _ => ?_) ?_ (fun l hl => ?_), ?_, fun hH => HLD_cg hH ((va_up_ne I2 (I2 320 + 1) (show (65 : Nat) ≠ 320 by decide)).trans ((x3 65 (by decide) (by decide) (by decide)).trans (n1 65 (by decide)))) (fun c _ => ?_) (fun c hc => ?_), fun i hi => ?_, fun p hp => ?_⟩
      · show va_up s' 384 (upd (s' 384) 0 (si 384 0 + 1)) 384 5 = s' 384 5
        rw [va_up_self, upd_n _ _ (by decide)]
      · show va_up s' 384 (upd (s' 384) 0 (si 384 0 + 1)) 384 (740 + 12 * p + k) = s' 384 (740 + 12 * p + k)
        rw [va_up_self, upd_n _ _ (by omega)]
      · show R' 11 l = r2 11 l
        rw [f4 11 (by decide)]
      · exact cell 4 (by decide) (np 4 (Or.inl (by decide)))
      · exact cell (80 + l) (by omega) (np _ (Or.inl (by omega)))
      · show va_up I2 320 (I2 320 + 1) 322 = va_up s' 384 (upd (s' 384) 0 (si 384 0 + 1)) 384 11
        rw [va_up_ne _ _ (show (322 : Nat) ≠ 320 by decide), cell 11 (by decide) (np 11 (Or.inl (by decide)))]
        exact h3222
      · show R' 325 c = ri 325 c
        rw [f4 325 (by decide), rr 325 (by decide)]
      · show va_up s' 384 (upd (s' 384) 0 (si 384 0 + 1)) 384 (100 + 16 * c + 14) = si 384 (100 + 16 * c + 14)
        rw [cell _ (by omega) (np _ (Or.inl (by omega))), bS _ (by omega) (by omega) (by omega)]
        exact sCell c 14 hc (by decide)
      · show va_up s' 384 (upd (s' 384) 0 (si 384 0 + 1)) 384 i = si 384 i
        rw [cell i (by omega) (np i (by omega)), bS i (by omega) (by omega) (by omega)]
        by_cases i20 : i < 20
        · exact s20 i i20 (by omega)
        · exact Sf i (by omega) (by omega) (fun c2 k2 _ hk2 => by simp only [List.mem_cons, List.not_mem_nil, or_false] at hk2; omega) (fun p2 k2 _ hk2 => by simp only [List.mem_cons, List.not_mem_nil, or_false] at hk2; omega)
      · show va_up s' 384 (upd (s' 384) 0 (si 384 0 + 1)) 384 (740 + 12 * p + 3) = 200 ↔ si 384 (740 + 12 * p + 3) = 200
        rw [va_up_self, upd_n _ _ (by omega), f6 p hp, bS _ (by omega) (by omega) (by omega), sPer p 3 hp (by decide)]
    exact fin _ f1
  exact key _ rfl
end PK12
