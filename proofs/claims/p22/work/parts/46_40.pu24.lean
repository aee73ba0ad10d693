/-! ===== pure: a month, both sides: the ROCKS, AREA, DRY, UNDER, THE FUND (behind pu23) ===== -/
section PU24
variable {I : Nat → Int32} {J : Nat → Int64} {ri : Nat → Nat → Int32} {rj : Nat → Nat → Int64} {rq : Nat → Nat → Option Nat}
variable {U : Nat → Int32} {V : Nat → Int64} {si : Nat → Nat → Int32} {sj : Nat → Nat → Int64} {sq : Nat → Nat → Option Nat}
variable {tI : Nat → Nat → Int32} {tR : Nat → Nat → Nat → Int32}
/-- what a month leaves of what AREA and THE FUND hang on -/
def AMR (n : Nat) (a0 : Int32) (I : Nat → Int32) (ri : Nat → Nat → Int32) (si : Nat → Nat → Int32) (U : Nat → Int32) (b c : vM) : Prop := b.1 324 = c.2.2.1 384 18 ∧ c.1 407 = U 407 ∧ ARH (n + 1) b.1 b.2.2.1 b.2.2.2.1 (c.2.2.1 384) ∧ (∀ j, j < 40 → hb (b.2.1 67) j = dryN a0 I ri j) ∧ (∀ j, j < 40 → b.2.2.1 77 j = undN a0 I ri j) ∧ (∀ j, j < 40 → c.2.2.1 384 (100 + 16 * j + 12) = (if j < (I 65).toNatClampNeg then (if dryN a0 I ri j = true then 1 else 0) else si 384 (100 + 16 * j + 12)) ∧ c.2.2.1 384 (100 + 16 * j + 11) = (if j < (I 65).toNatClampNeg then (if dryN a0 I ri j = true then 0 else si 384 (100 + 16 * j + 11) + 1) else si 384 (100 + 16 * j + 11))) ∧ (FUH I ri (si 384) → b.1 321 = c.2.2.1 384 8 ∧ b.1 323 = c.2.2.1 384 12 ∧ (-1 ≤ (c.2.2.1 384 12).toInt) ∧ c.1 410 = (if c.2.2.1 384 8 < 0 then 1 else 0))
set_option maxHeartbeats 1000000 in
theorem goBy_sim {a0 : Int32} {n : Nat} (h : RSL I ri (si 384)) (h6 : (I 320).toInt < 600) (hn : (I 320).toInt = (n : Int)) (hT : TXS I rq tI tR (si 384)) (hF : FCS I ri (si 384)) (h407 : U 407 = 0) (hA : ARH n I ri rj (si 384)) : AMR n a0 I ri si U (g_X10_goBy tI tR a0 I J ri rj rq) (g_X12_month a0 U V si sj sq) := by
  have hc407 : (g_X12_month a0 U V si sj sq).1 407 = U 407 := (g_X12_month_f (a0 := a0) (I := U) (J := V) (ri := si) (rj := sj) (rq := sq)).1 407 (by decide)
  obtain ⟨S, eM, So, Sf, Sd, Sk, Sr⟩ := month_q (U := U) (V := V) (sj := sj) (sq := sq) (a0 := a0) h h6
  obtain ⟨I1, J1, r1, l1, en, n1, n73, n74, nr, nl, nj, nd, ⟨k, nk1, nk2⟩, nu⟩ := nature_w (I := I) (J := J) (ri := ri) (rj := rj) (rq := rq) (a0 := a0) h.1 h6
  obtain ⟨⟨⟨m0, m6⟩, ⟨c0, c4⟩, ⟨l0, l2⟩⟩, ⟨⟨r0, r5⟩, ⟨p0, p4⟩, q4⟩, ⟨e0, e1, e2, e3⟩, _, _, hld, _⟩ := h
  have k6 : (600 : Int32).toInt = 600 := by decide
  have nm : ∀ f : Nat, f ∉ ([] : List Nat) := fun f x => by cases x
  have cn : (I 320).toNatClampNeg = n := at_n hn
  have z65 := clampE (I 65)
  have hn6 : n < 600 := by omega
  obtain ⟨a1, a2, a3, a4⟩ := hA
  have s20 : ∀ i, i < 20 → i ≠ 9 → S 384 i = si 384 i := fun i i1 i2 => Sf i i2 (Or.inl (by omega)) (fun c k _ _ => by omega) (fun p k _ _ => by omega)
  have sCell : ∀ c k, c < 40 → k ∈ [0, 1, 2, 3, 6, 14] → S 384 (100 + 16 * c + k) = si 384 (100 + 16 * c + k) := fun c k hc hk => by
    simp only [List.mem_cons, List.not_mem_nil, or_false] at hk
    exact Sf _ (by omega) (Or.inl (by omega)) (fun c2 k2 _ hk2 => by simp only [List.mem_cons, List.not_mem_nil, or_false] at hk2; omega) (fun p k2 _ hk2 => by simp only [List.mem_cons, List.not_mem_nil, or_false] at hk2; omega)
  have sPer : ∀ p k, p < 40 → k ∈ [0, 1, 2, 3, 4, 7, 8] → S 384 (740 + 12 * p + k) = si 384 (740 + 12 * p + k) := fun p k hp hk => by
    simp only [List.mem_cons, List.not_mem_nil, or_false] at hk
    exact Sf _ (by omega) (Or.inl (by omega)) (fun c2 k2 _ hk2 => by simp only [List.mem_cons, List.not_mem_nil, or_false] at hk2; omega) (fun p2 k2 _ hk2 => by simp only [List.mem_cons, List.not_mem_nil, or_false] at hk2; omega)
  have sTx : ∀ j, zn j ∈ lzt → S 384 j = si 384 j := fun j hj => by
    rcases lz_x hj with q | q
    · rw [q]; exact s20 6 (by decide) (by decide)
    · exact Sf j (by omega) (Or.inr q) (fun c2 k2 _ hk2 => by simp only [List.mem_cons, List.not_mem_nil, or_false] at hk2; omega) (fun p2 k2 _ hk2 => by simp only [List.mem_cons, List.not_mem_nil, or_false] at hk2; omega)
  have sFc : ∀ i, 2220 ≤ i → i < 2340 → S 384 i = si 384 i := fun i i1 i2 => Sf i (by omega) (Or.inl (by omega)) (fun c2 k2 _ hk2 => by simp only [List.mem_cons, List.not_mem_nil, or_false] at hk2; omega) (fun p2 k2 _ hk2 => by simp only [List.mem_cons, List.not_mem_nil, or_false] at hk2; omega)
  have key : ∀ b : vM, b = g_X10_goBy tI tR a0 I J ri rj rq → AMR n a0 I ri si U b (g_X12_month a0 U V si sj sq) := by
    intro b eb
    rw [g_X10_goBy_e] at eb
    simp only [↓ap1_n] at eb
    rw [if_pos (Int32.lt_iff_toInt_lt.mpr (by rw [k6]; exact h6)), en, bnV_mk] at eb
    rw [eb]
    clear eb b
    refine bV_of (P := fun b => AMR n a0 I ri si U b (g_X12_month a0 U V si sj sq)) g_X9_fillUp_f (fun _ _ ra _ _ h1 => ?_)
    refine bV_of (P := fun b => AMR n a0 I ri si U b (g_X12_month a0 U V si sj sq)) g_X2_countBeds_332_f (fun _ _ rb _ _ h2 => ?_)
    refine bI_of (P := fun b => AMR n a0 I ri si U b (g_X12_month a0 U V si sj sq)) g_X0_drink_f (fun _ _ _ rc _ _ h3 => ?_)
    refine bI_of (P := fun b => AMR n a0 I ri si U b (g_X12_month a0 U V si sj sq)) g_X0_sleep_332_f (fun _ _ _ re _ _ h4 => ?_)
    have eR : ∀ t, t ∉ [289, 290, 332, 6, 12, 7] → re t = r1 t := fun t ht => by
      simp only [List.mem_cons, List.not_mem_nil, or_false, not_or] at ht
      have g4 : re t = rc t := h4.2.2.1 t (fun x => by
        have y : t ∈ ([7, 12] : List Nat) := x
        simp only [List.mem_cons, List.not_mem_nil, or_false] at y
        omega)
      have g3 : rc t = rb t := h3.2.2.1 t (fun x => by
        have y : t ∈ ([6, 12, 289] : List Nat) := x
        simp only [List.mem_cons, List.not_mem_nil, or_false] at y
        omega)
      have g2 : rb t = ra t := h2.2.2.1 t (fun x => by
        have y : t ∈ ([332] : List Nat) := x
        simp only [List.mem_cons, List.not_mem_nil, or_false] at y
        omega)
      have g1 : ra t = r1 t := h1.2.2.1 t (fun x => by
        have y : t ∈ ([289, 290] : List Nat) := x
        simp only [List.mem_cons, List.not_mem_nil, or_false] at y
        omega)
      exact ((g4.trans g3).trans g2).trans g1
    have eRi : ∀ t, t ∉ [289, 290, 332, 6, 12, 7, 73, 74, 76, 77, 81] → re t = ri t := fun t ht => by
      simp only [List.mem_cons, List.not_mem_nil, or_false, not_or] at ht
      rw [eR t (by simp only [List.mem_cons, List.not_mem_nil, or_false, not_or]; omega)]
      exact nr t (by simp only [List.mem_cons, List.not_mem_nil, or_false, not_or]; omega)
    have i65 : I1 65 = I 65 := n1 65 (by decide)
    have i320 : I1 320 = si 384 0 := (n1 320 (by decide)).trans e0
    have le68 : l1 68 = vp_updL (rj 68) n k := by rw [nk1, cn]
    have hTe : TXS I1 rq tI tR (S 384) := TXS_cg hT (n1 96 (by decide)) (fun _ _ => rfl) (fun _ _ _ _ => ⟨rfl, fun _ _ => rfl⟩) sTx
    have hFe : FCS I1 re (S 384) := FCS_cg hF (n1 98 (by decide)) (fun t ht j _ => by rw [eRi t ((by decide : ∀ t, t ∈ [99, 100, 101] → t ∉ [289, 290, 332, 6, 12, 7, 73, 74, 76, 77, 81]) t ht)]) (s20 7 (by decide) (by decide)) sFc (by rw [s20 6 (by decide) (by decide)]; exact Int.le_refl _)
    have hAe : ARH (n + 1) I1 re l1 (S 384) := by
      refine ⟨?_, ?_, fun c hc => ?_, fun f hf c hc => ?_⟩
      · rw [n1 237 (by decide), s20 16 (by decide) (by decide)]; exact a1
      · rw [s20 16 (by decide) (by decide)]; exact a2
      · rw [eRi 71 (by decide), eRi 72 (by decide), sCell c 2 hc (by decide), sCell c 3 hc (by decide)]
        exact a3 c hc
      · rw [i65] at hc
        have c40 : c < 40 := by omega
        rw [le68]
        by_cases q : f = n
        · rw [q, vL_s, nk2 c (by omega)]
          have y := Sk c c40
          rw [cn] at y
          by_cases z : rockN a0 I ri c = true
          · rw [z, y.mpr z]
          · have z2 : rockN a0 I ri c = false := by simpa using z
            have z3 : rkA (S 384) n c = false := by
              cases z4 : rkA (S 384) n c with
              | true => exact absurd (y.mp z4) z
              | false => rfl
            rw [z2, z3]
        · rw [vL_n _ _ q, a4 f (by omega) c hc]
          unfold rkA
          rw [Sr _ (by omega) (by omega) (by rw [cn]; omega) (by rw [cn]; omega), Sr _ (by omega) (by omega) (by rw [cn]; omega) (by rw [cn]; omega)]
    obtain ⟨I2, r2, B, U1, x1, x2, x3, x4, x5, x6, x7, x8⟩ := reckon_sim (I := I1) (J := J1) (ri := re) (rj := l1) (rq := rq) (U := U) (V := V) (si := S) (sj := sj) (sq := sq) (m := si 384 0) (n := n) hTe hFe h407 i320 (by rw [← e0]; exact hn) hn6 (by rw [i65, e2, s20 2 (by decide) (by decide)]) (by rw [s20 2 (by decide) (by decide), ← e2]; exact ⟨c0, c4⟩) (by rw [s20 5 (by decide) (by decide)]; exact ⟨p0, p4⟩) hAe
    rw [x1, bnV_mk]
    -- the reference's BOATS
    obtain ⟨U3, S3, L3, y1, y2, y3, y4⟩ := boatsGo_b (I := U1) (J := V) (ri := va_up S 384 B) (rj := sj) (rq := sq) (m := si 384 0) (by rw [va_up_self, x7 5 (by decide) (by decide) (by decide), s20 5 (by decide) (by decide)]; exact p4) (by rw [va_up_self, x7 4 (by decide) (by decide) (by decide), s20 4 (by decide) (by decide)]; exact q4)
    rw [va_up_self] at y4
    have eC : g_X12_month a0 U V si sj sq = (U3, V, va_up S3 384 (upd (S3 384) 0 (si 384 0 + 1)), L3, sq) := by rw [eM, x2, bnV_mk, y1, bnV_mk]
    rw [eC] at hc407 ⊢
    have sB : ∀ i, i ≠ 0 → (∀ p k, p < 40 → k ∈ [3, 7] → i ≠ 740 + 12 * p + k) → va_up S3 384 (upd (S3 384) 0 (si 384 0 + 1)) 384 i = B i := fun i i1 i2 => by
      rw [va_up_self, upd_n _ _ i1]
      exact y4.1 i rfl (fun _ _ => rfl) i2
    have np : ∀ i, (i < 740 ∨ 1220 ≤ i) → ∀ p k, p < 40 → k ∈ [3, 7] → i ≠ 740 + 12 * p + k := fun i hi p k hp hk => by
      simp only [List.mem_cons, List.not_mem_nil, or_false] at hk
      omega
    have sS : ∀ i, i ≠ 0 → i ≠ 8 → i ≠ 12 → i ≠ 18 → (i < 740 ∨ 1220 ≤ i) → va_up S3 384 (upd (S3 384) 0 (si 384 0 + 1)) 384 i = S 384 i := fun i i1 i2 i3 i4 i5 => by
      rw [sB i i1 (np i i5)]
      exact x7 i i2 i3 i4
    -- whatever BOATS of the class do
    have fin : ∀ r3 : Nat → Nat → Int32, r3 71 = r2 71 → r3 72 = r2 72 → r3 77 = r2 77 → AMR n a0 I ri si U (g_X10_goBy_K174 rq J1 l1 I2 r3) (U3, V, va_up S3 384 (upd (S3 384) 0 (si 384 0 + 1)), L3, sq) := fun r3 t71 t72 t77 => by
      rw [g_X10_goBy_K174_e]
      simp only [↓ap1_n]
      have f65 : va_up I2 320 (I2 320 + 1) 65 = I1 65 := (va_up_ne _ _ (by decide)).trans (x3 65 (by decide) (by decide) (by decide))
      refine ⟨?_, hc407, ⟨?_, ?_, fun c hc => ?_, fun f hf c hc => ?_⟩, fun j hj => ?_, fun j hj => ?_, fun j hj => ?_, fun hU => ?_⟩
      · show va_up I2 320 (I2 320 + 1) 324 = va_up S3 384 (upd (S3 384) 0 (si 384 0 + 1)) 384 18
        rw [va_up_ne _ _ (show (324 : Nat) ≠ 320 by decide), sB 18 (by decide) (np 18 (Or.inl (by decide)))]
        exact x5
      · show va_up I2 320 (I2 320 + 1) 237 = va_up S3 384 (upd (S3 384) 0 (si 384 0 + 1)) 384 16
        rw [va_up_ne _ _ (show (237 : Nat) ≠ 320 by decide), x3 237 (by decide) (by decide) (by decide), sS 16 (by decide) (by decide) (by decide) (by decide) (Or.inl (by decide))]
        exact hAe.1
      · show 0 ≤ (va_up S3 384 (upd (S3 384) 0 (si 384 0 + 1)) 384 16).toInt ∧ (va_up S3 384 (upd (S3 384) 0 (si 384 0 + 1)) 384 16).toInt ≤ 20
        rw [sS 16 (by decide) (by decide) (by decide) (by decide) (Or.inl (by decide))]
        exact hAe.2.1
      · show r3 71 c = va_up S3 384 (upd (S3 384) 0 (si 384 0 + 1)) 384 (100 + 16 * c + 2) ∧ r3 72 c = va_up S3 384 (upd (S3 384) 0 (si 384 0 + 1)) 384 (100 + 16 * c + 3) ∧ (0 ≤ (va_up S3 384 (upd (S3 384) 0 (si 384 0 + 1)) 384 (100 + 16 * c + 2)).toInt ∧ (va_up S3 384 (upd (S3 384) 0 (si 384 0 + 1)) 384 (100 + 16 * c + 2)).toInt ≤ 31) ∧ (0 ≤ (va_up S3 384 (upd (S3 384) 0 (si 384 0 + 1)) 384 (100 + 16 * c + 3)).toInt ∧ (va_up S3 384 (upd (S3 384) 0 (si 384 0 + 1)) 384 (100 + 16 * c + 3)).toInt ≤ 31)
        rw [t71, t72, x4 71 (by decide) (by decide), x4 72 (by decide) (by decide), sS _ (by omega) (by omega) (by omega) (by omega) (Or.inl (by omega)), sS _ (by omega) (by omega) (by omega) (by omega) (Or.inl (by omega))]
        exact hAe.2.2.1 c hc
      · have hc2 : c < (I1 65).toNatClampNeg := by
          have hc3 : c < (va_up I2 320 (I2 320 + 1) 65).toNatClampNeg := hc
          rw [f65] at hc3
          exact hc3
        have c40 : c < 40 := by rw [i65] at hc2; omega
        show hb (l1 68 f) c = rkA (va_up S3 384 (upd (S3 384) 0 (si 384 0 + 1)) 384) f c
        rw [hAe.2.2.2 f hf c hc2]
        unfold rkA
        rw [sS _ (by omega) (by omega) (by omega) (by omega) (Or.inr (by omega)), sS _ (by omega) (by omega) (by omega) (by omega) (Or.inr (by omega))]
      · show hb (J1 67) j = _
        exact nd j (by omega)
      · show r3 77 j = _
        rw [t77, x4 77 (by decide) (by decide), eR 77 (by decide)]
        exact nu j
      · show va_up S3 384 (upd (S3 384) 0 (si 384 0 + 1)) 384 (100 + 16 * j + 12) = _ ∧ va_up S3 384 (upd (S3 384) 0 (si 384 0 + 1)) 384 (100 + 16 * j + 11) = _
        rw [sS _ (by omega) (by omega) (by omega) (by omega) (Or.inl (by omega)), sS _ (by omega) (by omega) (by omega) (by omega) (Or.inl (by omega))]
        exact Sd j hj
      · obtain ⟨u0, u1, u2, u3, u4, u5, u6⟩ := hU
        have hUe : FUH I1 re (S 384) := by
          refine ⟨?_, ?_, ?_, ?_, ?_, fun p hp => ?_, fun c hc => ?_⟩
          · rw [n1 0 (by decide), s20 5 (by decide) (by decide)]; exact u0
          · rw [n1 238 (by decide), s20 17 (by decide) (by decide)]; exact u1
          · rw [n1 321 (by decide), s20 8 (by decide) (by decide)]; exact u2
          · rw [n1 323 (by decide), s20 12 (by decide) (by decide)]; exact u3
          · rw [s20 12 (by decide) (by decide)]; exact u4
          · rw [n1 0 (by decide)] at hp
            have zp := clampE (I 0)
            have p40 : p < 40 := by rw [u0] at zp hp; omega
            rw [eRi 5 (by decide), eRi 4 (by decide), sPer p 3 p40 (by decide), sPer p 4 p40 (by decide)]
            exact u5 p hp
          · rw [i65] at hc
            rw [eRi 75 (by decide), sCell c 6 (by omega) (by decide)]
            exact u6 c hc
        obtain ⟨w1, w2, w3, w4⟩ := x8 hUe
        have b8 : va_up S3 384 (upd (S3 384) 0 (si 384 0 + 1)) 384 8 = B 8 := sB 8 (by decide) (np 8 (Or.inl (by decide)))
        have b12 : va_up S3 384 (upd (S3 384) 0 (si 384 0 + 1)) 384 12 = B 12 := sB 12 (by decide) (np 12 (Or.inl (by decide)))
        show va_up I2 320 (I2 320 + 1) 321 = va_up S3 384 (upd (S3 384) 0 (si 384 0 + 1)) 384 8 ∧ va_up I2 320 (I2 320 + 1) 323 = va_up S3 384 (upd (S3 384) 0 (si 384 0 + 1)) 384 12 ∧ (-1 ≤ (va_up S3 384 (upd (S3 384) 0 (si 384 0 + 1)) 384 12).toInt) ∧ U3 410 = (if va_up S3 384 (upd (S3 384) 0 (si 384 0 + 1)) 384 8 < 0 then 1 else 0)
        rw [b8, b12, va_up_ne _ _ (show (321 : Nat) ≠ 320 by decide), va_up_ne _ _ (show (323 : Nat) ≠ 320 by decide)]
        exact ⟨w1, w2, w3, (y2 410 (by decide)).trans w4⟩
    by_cases q : I2 322 ≤ 0
    · rw [if_pos q]
      exact fin r2 rfl rfl rfl
    · rw [if_neg q]
      refine bV_of (P := fun b => AMR n a0 I ri si U b (U3, V, va_up S3 384 (upd (S3 384) 0 (si 384 0 + 1)), L3, sq)) g_X3_line_331_f (fun If Jf rf lf qf h5 => ?_)
      refine bI_of (P := fun b => AMR n a0 I ri si U b (U3, V, va_up S3 384 (upd (S3 384) 0 (si 384 0 + 1)), L3, sq)) g_X0_onRings_f (fun _ Ig Jg rg lg qg h6 => ?_)
      refine bI_of (P := fun b => AMR n a0 I ri si U b (U3, V, va_up S3 384 (upd (S3 384) 0 (si 384 0 + 1)), L3, sq)) g_X3_whoIsSo_f (fun _ Ih Jh rh lh qh h7 => ?_)
      refine bV_of (P := fun b => AMR n a0 I ri si U b (U3, V, va_up S3 384 (upd (S3 384) 0 (si 384 0 + 1)), L3, sq)) g_X0_board_331_f (fun Ik Jk rk lk qk h8 => ?_)
      have t : ∀ t, t ∈ [71, 72, 77] → rk t = r2 t := fun t ht => by
        have g8 : rk t = rh t := h8.2.2.1 t ((by decide : ∀ t, t ∈ [71, 72, 77] → t ∉ w_X0_board_331.2.2.1) t ht)
        have g7 : rh t = rf t := h7.2.2.1 t ((by decide : ∀ t, t ∈ [71, 72, 77] → t ∉ w_X3_whoIsSo.2.2.1) t ht)
        have g5 : rf t = r2 t := h5.2.2.1 t ((by decide : ∀ t, t ∈ [71, 72, 77] → t ∉ w_X3_line_331.2.2.1) t ht)
        exact (g8.trans g7).trans g5
      exact fin rk (t 71 (by decide)) (t 72 (by decide)) (t 77 (by decide))
  exact key _ rfl
end PU24
