/-! ===== pure: BOATS of both sides, put together (behind pk10) ===== -/
section PK11
variable {I : Nat → Int32} {J : Nat → Int64} {ri : Nat → Nat → Int32} {rj : Nat → Nat → Int64} {rq : Nat → Nat → Option Nat}
variable {U : Nat → Int32} {V : Nat → Int64} {si : Nat → Nat → Int32} {sj : Nat → Nat → Int64} {sq : Nat → Nat → Option Nat}
variable {tI : Nat → Nat → Int32} {tR : Nat → Nat → Nat → Int32}
theorem on_4 {N : Nat} (hI : (I 0).toInt = (N : Int)) (hN : N ≤ 40) : ∀ (n k : Nat) (x : Int32) (s : Int64), x.toInt = (k : Int) → 40 - k < n → k ≤ N → (∀ q, q < k → hb s q = decide ((ri 5 q).toInt < 5)) → (∀ q, k ≤ q → q < 64 → hb s q = false) → ∃ s' : Int64, g_X0_onRings_L4 I J ri rj rq n s x = (s', I, J, ri, rj, rq) ∧ ∀ q, q < N → hb s' q = decide ((ri 5 q).toInt < 5) := by
  have k5 : (5 : Int32).toInt = 5 := by decide
  intro n
  induction n with
  | zero => intro k _ _ _ h; exact absurd h (Nat.not_lt_zero _)
  | succ n ih =>
    intro k x s hx hn hk hs hz
    rw [g_X0_onRings_L4_e]
    simp only [↓ap1_n, g_X0_onRings_K26]
    by_cases c : I 0 ≤ x
    · have c1 := (le_n hI hx).mp c
      rw [if_pos c]
      exact ⟨s, rfl, by rw [show N = k by omega]; exact hs⟩
    · have c1 : ¬ N ≤ k := fun y => c ((le_n hI hx).mpr y)
      have nx := up_i hx (by omega)
      rw [if_neg c, g_X0_isOnRing_e]
      simp only [↓ap1_n]
      rw [at_n hx]
      by_cases d : (5 : Int32) ≤ ri 5 k
      · have d1 := Int32.le_iff_toInt_le.mp d
        rw [if_pos d, bnI_mk, if_pos (show (0 : Int32) = 0 from rfl)]
        refine ih (k + 1) _ s nx (by omega) (by omega) (fun q hq => ?_) (fun q h1 h2 => hz q (by omega) h2)
        by_cases e : q = k
        · rw [e, hz k (Nat.le_refl _) (by omega), decide_eq_false (show ¬ (ri 5 k).toInt < 5 by omega)]
        · exact hs q (by omega)
      · have d1 : ¬ (5 : Int32).toInt ≤ (ri 5 k).toInt := fun y => d (Int32.le_iff_toInt_le.mpr y)
        have hbo : ∀ j, j < 64 → hb (s ||| ((1 : Int64) <<< (x.toInt64 &&& 63))) j = (hb s j || decide (k = j)) := fun j hj => by rw [hb_or (by omega) (by omega) j hj, at_n hx]
        rw [if_neg d, bnI_mk, if_neg (show ¬ (1 : Int32) = 0 by decide)]
        refine ih (k + 1) _ _ nx (by omega) (by omega) (fun q hq => ?_) (fun q h1 h2 => ?_)
        · rw [hbo q (by omega)]
          by_cases e : q = k
          · rw [e, decide_eq_true rfl, Bool.or_true, decide_eq_true (show (ri 5 k).toInt < 5 by omega)]
          · rw [hs q (by omega), decide_eq_false (show ¬ k = q from fun y => e y.symm), Bool.or_false]
        · rw [hbo q h2, hz q (by omega) h2, decide_eq_false (show ¬ k = q by omega)]
          rfl
theorem onRings_v {N : Nat} (hI : (I 0).toInt = (N : Int)) (hN : N ≤ 40) : ∃ s' : Int64, g_X0_onRings I J ri rj rq = (s', I, J, ri, rj, rq) ∧ ∀ q, q < N → hb s' q = decide ((ri 5 q).toInt < 5) := by
  have k0 : (0 : Int32).toInt = 0 := by decide
  rw [g_X0_onRings_e]
  exact on_4 hI hN _ 0 0 0 k0 (by rw [k0]; omega) (Nat.zero_le _) (fun q hq => absurd hq (Nat.not_lt_zero _)) (fun q _ _ => hb_0 q)
theorem goesAhead_v {mo x y : Int32} {p q : Nat} {o : Option (List Int32)} {K : Int32} {s : Nat → Nat → Int32} {m : Nat → Nat → Int64} (h407 : U 407 = 0) (hA : ∀ E, o = some E → ∀ (U1 : Nat → Int32) (s : Nat → Nat → Int32) (m : Nat → Nat → Int64) (mo2 x y : Int32) (p q : Nat), U1 406 = K → s 384 = si 384 → x.toInt = (p : Int) → y.toInt = (q : Int) → p < 40 → q < 40 → g_X12_isAhead x y mo2 U1 V s m sq = ((if ahd (si 384) E p q = true then 1 else 0), U1, V, s, m, sq)) (hs : s 384 = si 384) (hx : x.toInt = (p : Int)) (hy : y.toInt = (q : Int)) (hp : p < 40) (hq : q < 40) : g_X12_goesAhead x y mo (if o = none then 0 else 1) (va_up U 406 K) V s m sq = ((if ltk (si 384) o p q = true then 1 else 0), va_up U 406 K, V, s, m, sq) := by
  have e407 : va_up U 406 K 407 = 0 := (va_up_ne _ _ (by decide)).trans h407
  rw [g_X12_goesAhead_e]
  simp only [↓ap1_n]
  rw [e407, if_neg (show ¬ (0 : Int32) = 1 by decide)]
  cases ho : o with
  | none =>
    rw [if_pos (show (if (none : Option (List Int32)) = none then (0 : Int32) else 1) = 0 by rw [if_pos rfl]), g_X12_goesAhead_K58_e]
    show _ = ((if false = true then (1 : Int32) else 0), _, _, _, _, _)
    rw [if_neg Bool.false_ne_true]
  | some E =>
    rw [if_neg (show ¬ (if (some E : Option (List Int32)) = none then (0 : Int32) else 1) = 0 by rw [if_neg (by simp)]; decide), hA E ho (va_up U 406 K) s m mo x y p q (va_up_self _ _ _) hs hx hy hp hq, bnI_mk]
    show _ = ((if ahd (si 384) E p q = true then (1 : Int32) else 0), _, _, _, _, _)
    by_cases l : ahd (si 384) E p q = true
    · rw [if_pos l, if_neg (show ¬ (1 : Int32) = 0 by decide)]
    · rw [if_neg l, if_pos (show (0 : Int32) = 0 from rfl), g_X12_goesAhead_K58_e]
set_option maxHeartbeats 1000000 in
theorem boats_F {mo : Int32} {k : (Nat → Nat → Int32) → vM} (hT : TXS I rq tI tR (si 384)) (hF : FCS I ri (si 384)) (hK : FLK I ri (si 384)) (hL : LTS I ri (si 384)) (h322 : I 322 = si 384 11) (hm : vb9 mo) (h407 : U 407 = 0) : ∃ (R' s' : Nat → Nat → Int32) (U' : Nat → Int32) (m' : Nat → Nat → Int64), (if I 322 ≤ 0 then k ri else bnV (g_X3_line_331 tI tR 4 mo I J ri rj rq) fun (_ : Nat → Int32) (_ : Nat → Int64) (r2 : Nat → Nat → Int32) (_ : Nat → Nat → Int64) (_ : Nat → Nat → Option Nat) => bnI (g_X0_onRings I J r2 rj rq) fun (x : Int64) (_ : Nat → Int32) (_ : Nat → Int64) (_ : Nat → Nat → Int32) (_ : Nat → Nat → Int64) (_ : Nat → Nat → Option Nat) => bnI (g_X3_whoIsSo tI tR 2 mo x I J r2 rj rq) fun (x2 : Int64) (_ : Nat → Int32) (_ : Nat → Int64) (r3 : Nat → Nat → Int32) (_ : Nat → Nat → Int64) (_ : Nat → Nat → Option Nat) => bnV (g_X0_board_331 x2 (I 0) (I 322) mo I J r3 rj rq) fun (_ : Nat → Int32) (_ : Nat → Int64) (r4 : Nat → Nat → Int32) (_ : Nat → Nat → Int64) (_ : Nat → Nat → Option Nat) => k r4) = k R' ∧ g_X12_boatsGo mo U V si sj sq = (U', V, s', m', sq) ∧ FLK I R' (s' 384) ∧ (∀ t, t ∉ [5, 8, 12, 13, 14, 15, 102, 103, 331] → R' t = ri t) ∧ (∀ j, (∀ q k, q < 40 → k ∈ [3, 7] → j ≠ 740 + 12 * q + k) → s' 384 j = si 384 j) ∧ ∀ q, q < 40 → (s' 384 (740 + 12 * q + 3) = 200 ↔ si 384 (740 + 12 * q + 3) = 200) := by
  have k0 : (0 : Int32).toInt = 0 := by decide
  have hK' := hK
  have hL' := hL
  obtain ⟨i0, ⟨n0, n40⟩, kp⟩ := hK'
  obtain ⟨e10, ⟨l0, l5⟩, lb⟩ := hL'
  obtain ⟨N, h5⟩ : ∃ N : Nat, (si 384 5).toInt = (N : Int) := ⟨(si 384 5).toInt.toNat, by omega⟩
  obtain ⟨L, h4⟩ : ∃ L : Nat, (si 384 4).toInt = (L : Int) := ⟨(si 384 4).toInt.toNat, by omega⟩
  have hN : N ≤ 40 := by omega
  have hL5 : L ≤ 5 := by omega
  have hI0 : (I 0).toInt = (N : Int) := by rw [i0]; exact h5
  have hI10 : (I 10).toInt = (L : Int) := by rw [e10]; exact h4
  -- the queue
  obtain ⟨o, f, K, l1, l2, l3, l4⟩ := line_v (I := I) (J := J) (ri := ri) (rj := rj) (rq := rq) (U := U) (V := V) (si := si) (sj := sj) (sq := sq) (tI := tI) (tR := tR) (a := 4) (mo := mo) (N := N) (Or.inl (by decide)) hT hF hK hI0
  rw [show srC 4 = 5 by decide] at l3
  have fr : ∀ t, t ≠ 331 → va_up ri 331 f t = ri t := fun t ht => va_up_ne _ _ ht
  have hK1 : FLK I (va_up ri 331 f) (si 384) := FLK_cg hK rfl (fun t ht p _ => by rw [fr t (fun q : t = 331 => by rw [q] at ht; exact absurd ht (by decide))]) rfl (fun _ _ _ _ => rfl)
  have hF1 : FCS I (va_up ri 331 f) (si 384) := FCS_cg hF rfl (fun t ht j _ => by rw [fr t (fun q : t = 331 => by rw [q] at ht; exact absurd ht (by decide))]) rfl (fun _ _ _ => rfl) (Int.le_refl _)
  -- who is on RINGS, who may
  obtain ⟨so0, o1, o2⟩ := onRings_v (I := I) (J := J) (ri := va_up ri 331 f) (rj := rj) (rq := rq) hI0 hN
  have who := fun (U2 : Nat → Int32) (s : Nat → Nat → Int32) (m : Nat → Nat → Int64) (hs : s 384 = si 384) => who_v (I := I) (J := J) (ri := va_up ri 331 f) (rj := rj) (rq := rq) (U := U2) (V := V) (si := s) (sj := m) (sq := sq) (tI := tI) (tR := tR) (a := 2) (mo := mo) (asked := so0) (by decide) (by decide) hm (by rw [hs]; exact hT) (by rw [hs]; exact hF1) (by rw [hs]; exact hK1)
  obtain ⟨so, B, R3, w1, w2, w3, _, _⟩ := who U si sj rfl
  have zI := clampE (I 0)
  have cI : (I 0).toNatClampNeg = N := at_n hI0
  rw [cI] at w3
  have p5 : ∀ q, q < 40 → va_up ri 331 f 5 q = si 384 (740 + 12 * q + 3) := fun q hq => by rw [fr 5 (by decide)]; exact (kp q hq).1.2.2.2.1
  have bo : ∀ q, q < N → hb so0 q = decide ((si 384 (740 + 12 * q + 3)).toInt < 5) := fun q hq => by rw [o2 q hq, p5 q (by omega)]
  have hB : ∀ q, q < N → (hb so q = true ↔ ((si 384 (740 + 12 * q + 3)).toInt < 5 ∧ B q = true)) := fun q hq => by
    rw [w3 q hq, bo q hq, Bool.and_eq_true_iff, decide_eq_true_iff]
  have hR : RNG (si 384) (fun q => hb so q) N := fun q hq b => by
    obtain ⟨_, d1, d2, d3, d4, d5⟩ := kp q (by omega)
    have := ((hB q hq).mp b).1
    exact ⟨⟨d4.1, this⟩, d1⟩
  have hw : ∀ (y : Int32) (q : Nat), y.toInt = (q : Int) → q < N → (si 384 (740 + 12 * q + 3)).toInt < 5 → ∀ (s : Nat → Nat → Int32) (m : Nat → Nat → Int64), s 384 = si 384 → ∃ (h' : Nat → Int32) (g' : Nat → Int64), g_X12_isFor 3 y mo (va_up U 406 K) V s m sq = ((if B q = true then 1 else 0), va_up U 406 K, V, va_up s 405 h', va_up m 404 g', sq) := fun y q hy hq hr s m hs => by
    obtain ⟨so2, B2, R2, x1, x2, x3, x4, x5⟩ := who (va_up U 406 K) s m hs
    have es : so2 = so := (Prod.mk.inj (x1.symm.trans w1)).1
    rw [es, cI] at x3
    have eb : B2 q = B q := by
      have a := w3 q hq
      rw [x3 q hq, bo q hq, decide_eq_true hr, Bool.true_and, Bool.true_and] at a
      exact a
    obtain ⟨h', g', e⟩ := x5 y q hy (by omega) (s 405) (m 404)
    rw [up_id, up_id, show srC 2 = 3 by decide, eb] at e
    exact ⟨h', g', e⟩
  have hgap : ∀ q, q < 40 → (si 384 (740 + 12 * q + 3)).toInt < 5 ∨ 100 ≤ (si 384 (740 + 12 * q + 3)).toInt := fun q hq => (kp q hq).2.2.2.2.2
  obtain ⟨xK, s1, m1, b1, b2, b3, b4, b5⟩ := bl_12 (V := V) (si := si) (sq := sq) (B0 := fun q => hb so q) (N := N) (mo := mo) (flag := (if o = none then 0 else 1)) (I3 := va_up U 406 K) (lt := ltk (si 384) o) (mayB := B) hN h5 hgap hB hw (fun s m x y p q hs hx hy hp hq => goesAhead_v h407 l4 hs hx hy hp hq) ((40 - (0 : Int32).toInt).toNat + 1) 0 0 0 si sj k0 (by rw [k0]; omega) (Nat.zero_le _) k0 trivial (fun q hq => absurd hq (Nat.not_lt_zero _)) rfl
  have ref : g_X12_boatsGo mo U V si sj sq = g_X12_boatsGo_L142 mo V sq (va_up U 406 K) xK m1 ((40 - ((0 : Int32)).toInt).toNat + 1) (si 384 11) (0 : Int32) s1 := by
    rw [g_X12_boatsGo_e, l3, bnI_mk]
    exact b1
  have Kl := srtF_l (B0 := fun q => hb so q) (lt := ltk (si 384) o) N
  have hr : ∀ k, k < (srtF (ltk (si 384) o) (fun q => hb so q) N).length → (s1 411 k).toInt = (((s1 411 k).toInt.toNat : Nat) : Int) ∧ (s1 411 k).toInt.toNat < N := fun k hk => by
    obtain ⟨x1, x2⟩ := RWq_at _ k b3 hk
    exact ⟨by omega, (srtF_m N _ x2).1⟩
  have hO : ∀ j, (∀ q k, q < 40 → k ∈ [3, 7] → j ≠ 740 + 12 * q + k) → s1 384 j = si 384 j := fun j _ => by rw [b5]
  by_cases q : I 322 ≤ 0
  · -- no BOATS
    have q1 := Int32.le_iff_toInt_le.mp q
    rw [k0, h322] at q1
    obtain ⟨s', z1, z2, z3⟩ := bz_142 (V := V) (si := si) (sq := sq) (N := N) (L := L) (r := fun k => (s1 411 k).toInt.toNat) (mo := mo) (xK := xK) (left := si 384 11) (row := s1 411) (I3 := va_up U 406 K) (m := m1) hN b2 (by omega) hL5 h4 h5 hr q1 ((40 - (0 : Int32).toInt).toNat + 1) 0 0 s1 k0 (by rw [k0]; omega) (Nat.zero_le _) rfl hO (fun q _ => by rw [b5])
    refine ⟨ri, s', va_up U 406 K, m1, by rw [if_pos q], ref.trans z1, FLK_cg hK rfl (fun _ _ _ _ => rfl) (z2 5 (fun q k _ hk2 => by simp only [List.mem_cons, List.not_mem_nil, or_false] at hk2; omega)) (fun p k hp hk => ?_), fun _ _ => rfl, z2, fun q hq => by rw [z3 q hq]⟩
    by_cases e : k = 3
    · rw [e]; exact z3 p hp
    · refine z2 _ (fun q2 k2 _ hk2 => ?_)
      simp only [List.mem_cons, List.not_mem_nil, or_false] at hk hk2
      omega
  · rw [if_neg q, l1, bnV_mk, o1, bnI_mk, w1, bnI_mk]
    have r3 : ∀ t, t ≠ 102 → t ≠ 103 → t ≠ 331 → R3 t = ri t := fun t h1 h2 h3 => (w2 t h1 h2).trans (fr t h3)
    have hK3 : FLK I R3 (si 384) := FLK_cg hK1 rfl (fun t ht p _ => by rw [w2 t (fun q : t = 102 => by rw [q] at ht; exact absurd ht (by decide)) (fun q : t = 103 => by rw [q] at ht; exact absurd ht (by decide))]) rfl (fun _ _ _ _ => rfl)
    have r35 : ∀ q, q < 40 → R3 5 q = si 384 (740 + 12 * q + 3) := fun q hq => (hK3.2.2 q hq).1.2.2.2.1
    have r31 : ∀ q, q < 40 → R3 1 q = si 384 (740 + 12 * q) := fun q hq => (hK3.2.2 q hq).1.1
    obtain ⟨R4, c1, c2, c3, c4⟩ := cg_v (I := I) (J := J) (ri := R3) (rj := rj) (rq := rq) (A0 := si 384) (B0 := fun q => hb so q) (N := N) (so := so) hR hN hI0 (fun _ _ => rfl) r35 r31
    obtain ⟨R5, d1, d2, d3⟩ := bdq_8 (I := I) (J := J) (ri := R4) (rj := rj) (rq := rq) (A0 := si 384) (N := N) (L := L) (so := so) (mo := mo) (xN := I 0) (left := I 322) hL5 hI10 (fun R x l hR2 hx hl => by
      have rr : ∀ t, t ≠ 13 → t ≠ 14 → t ≠ 15 → t ≠ 102 → t ≠ 103 → t ≠ 331 → R t = ri t := fun t h1 h2 h3 h4 h5 h6 => (hR2 t h1).trans ((c2 t h2 h3).trans (r3 t h4 h5 h6))
      have hKR : FLK I R (si 384) := FLK_cg hK rfl (fun t ht p _ => by
        have m : t ≠ 13 ∧ t ≠ 14 ∧ t ≠ 15 ∧ t ≠ 102 ∧ t ≠ 103 ∧ t ≠ 331 := (by decide : ∀ t, t ∈ [1, 2, 3, 4, 5, 9] → t ≠ 13 ∧ t ≠ 14 ∧ t ≠ 15 ∧ t ≠ 102 ∧ t ≠ 103 ∧ t ≠ 331) t ht
        rw [rr t m.1 m.2.1 m.2.2.1 m.2.2.2.1 m.2.2.2.2.1 m.2.2.2.2.2]) rfl (fun _ _ _ _ => rfl)
      have hLR : LTS I R (si 384) := LTS_cg hL rfl (fun l _ => by rw [rr 11 (by decide) (by decide) (by decide) (by decide) (by decide) (by decide)]) rfl (fun _ _ => rfl)
      obtain ⟨z, z1, z2⟩ := free_v (I := I) (J := J) (ri := R) (rj := rj) (rq := rq) (U := U) (V := V) (si := si) (sj := sj) (sq := sq) hKR hLR hx (by omega)
      have z3 := freeIn_v (U := U) (V := V) (si := si) (sj := sj) (sq := sq) h5 hN hx (show l < 5 by omega)
      rw [z1, (Prod.mk.inj (z2.symm.trans z3)).1]) ((5 - (0 : Int32).toInt).toNat + 1) 0 0 R4 k0 (by rw [k0]; omega) (Nat.zero_le _) (fun _ _ => rfl) (fun j hj => absurd hj (Nat.not_lt_zero _))
    have L2 := RWq_dl _ l2
    have sl := srt_l (lt := ltk (si 384) o) N
    rw [sl] at L2
    have L3 := RWq_dl _ b3
    have r5 : ∀ t, t ≠ 13 → t ≠ 14 → t ≠ 15 → R5 t = R3 t := fun t h1 h2 h3 => (d2 t h1).trans (c2 t h2 h3)
    have R331 : R3 331 = f := (w2 331 (by decide) (by decide)).trans (va_up_self _ _ _)
    obtain ⟨R6, s6, v1, v2, v3⟩ := bs_sim (I := I) (J := J) (rj := rj) (rq := rq) (V := V) (sq := sq) (A0 := si 384) (B0 := fun q => hb so q) (g := fun j => (f j).toInt.toNat) (r := fun k => (s1 411 k).toInt.toNat) (N := N) (L := L) (so := so) (mo := mo) (xN := I 0) (xK := xK) (K := (srtF (ltk (si 384) o) (fun q => hb so q) N).length) (row := s1 411) (rw0 := f) (kn := R3 1) (m := m1) (I3 := va_up U 406 K) hR hN hI0 b2 hI10 hL5 h4 h5 (fun j hj => by
      obtain ⟨x1, x2⟩ := RWq_at _ j l2 (by rw [sl]; exact hj)
      exact ⟨by omega, srt_m _ _ x2⟩) (fun k hk => (hr k hk).1) (by rw [← L2, ← L3, srtF_v ltk_s]) (by rw [← L2]; exact srt_nd N) (fun _ _ => rfl) r31 ((40 - (0 : Int32).toInt).toNat + 1) 0 0 (I 322) R5 s1 0 ((40 - (0 : Int32).toInt).toNat + 1) 0 k0 (by rw [k0]; omega) (Nat.zero_le _) k0 (by rw [k0]; omega) (Nat.zero_le _) (by omega) rfl ((r5 331 (by decide) (by decide) (by decide)).trans R331) (r5 1 (by decide) (by decide) (by decide)) rfl ⟨fun q hq b _ => by rw [r5 5 (by decide) (by decide) (by decide)]; exact r35 q (by omega), fun q hq b hm => (by cases hm), fun q hq _ => ⟨by rw [r5 5 (by decide) (by decide) (by decide)]; exact r35 q hq, by rw [b5]⟩, fun q hq b => by rw [b5, d2 15 (by decide), c3 _ (gi_50 hR hq b), if_pos rfl], fun q hq => ⟨fun y => ⟨(b4 q hq).mp y, by rw [d2 15 (by decide)]; exact c3 _ (gi_50 hR hq ((b4 q hq).mp y))⟩, fun y => (b4 q hq).mpr y.1⟩, fun q hq b => by rw [d2 14 (by decide)]; exact c4 q hq b, fun l hl => by rw [d3 l hl, b5], fun q hq b => Or.inl (by rw [d2 15 (by decide)]; exact c3 _ (gi_50 hR hq b)), hO⟩
    obtain ⟨_, vb, vc, vd, _, _, _, vh, vk⟩ := v3
    have bd : g_X0_board_331 so (I 0) (I 322) mo I J R3 rj rq = (I, J, R6, rj, rq) := by
      rw [g_X0_board_331_e, c1, bnV_mk, d1]
      exact v1
    rw [bd, bnV_mk]
    have fb := g_X0_board_331_f (a0 := so) (a2 := I 0) (a3 := I 322) (a4 := mo) (I := I) (J := J) (ri := R3) (rj := rj) (rq := rq)
    rw [bd] at fb
    have r6 : ∀ t, t ∉ [5, 8, 12, 13, 14, 15, 102, 103, 331] → R6 t = ri t := fun t ht => by
      have g8 : R6 t = R3 t := fb.2.2.1 t (fun y => ht ((by decide : ∀ t, t ∈ w_X0_board_331.2.2.1 → t ∈ [5, 8, 12, 13, 14, 15, 102, 103, 331]) t y))
      simp only [List.mem_cons, List.not_mem_nil, or_false, not_or] at ht
      rw [g8]
      exact r3 t (by omega) (by omega) (by omega)
    -- where all are
    have pl : ∀ q, q < 40 → R6 5 q = s6 384 (740 + 12 * q + 3) ∧ (s6 384 (740 + 12 * q + 3) = si 384 (740 + 12 * q + 3) ∨ ∃ l, l < L ∧ s6 384 (740 + 12 * q + 3) = lotP l ∧ (si 384 (740 + 12 * q + 3)).toInt < 5) := fun q hq => by
      by_cases b : q < N ∧ hb so q = true
      · obtain ⟨z1, z2⟩ := vb q b.1 b.2 (by rw [← L2]; exact srt_all N q b.1)
        have z3 := vd q b.1 b.2
        rw [if_neg z1] at z3
        refine ⟨z2.trans z3.symm, ?_⟩
        rw [z3]
        rcases vh q b.1 b.2 with e | e | ⟨l, e1, e2⟩
        · exact absurd e z1
        · rw [e]
          exact Or.inl (if_pos rfl)
        · rw [e2]
          refine Or.inr ⟨l, e1, ?_, (hR q b.1 b.2).1.2⟩
          exact if_neg (ofN_ne (by omega)).1
      · obtain ⟨z1, z2⟩ := vc q hq b
        exact ⟨z1.trans z2.symm, Or.inl z2⟩
    refine ⟨R6, s6, va_up U 406 K, m1, rfl, by rw [ref, ← h322]; exact v2, ⟨i0.trans (vk 5 (fun q k _ hk2 => by simp only [List.mem_cons, List.not_mem_nil, or_false] at hk2; omega)).symm, ?_, fun p hp => ?_⟩, r6, vk, fun p hp => ?_⟩
    · rw [vk 5 (fun q k _ hk2 => by simp only [List.mem_cons, List.not_mem_nil, or_false] at hk2; omega)]
      exact ⟨n0, n40⟩
    · have cell : ∀ k, k ∈ [0, 1, 2, 4, 8] → s6 384 (740 + 12 * p + k) = si 384 (740 + 12 * p + k) := fun k hk => vk _ (fun q2 k2 _ hk2 => by
        simp only [List.mem_cons, List.not_mem_nil, or_false] at hk hk2
        omega)
      obtain ⟨⟨a1, a2, a3, a4, a5, a6⟩, d1, d2, d3, d4, d5⟩ := kp p hp
      obtain ⟨e1, e2⟩ := pl p hp
      have c0 : s6 384 (740 + 12 * p) = si 384 (740 + 12 * p) := cell 0 (by decide)
      rw [c0, cell 1 (by decide), cell 2 (by decide), cell 4 (by decide), cell 8 (by decide), r6 1 (by decide), r6 2 (by decide), r6 3 (by decide), r6 4 (by decide), r6 9 (by decide)]
      refine ⟨⟨a1, a2, a3, e1, a5, a6⟩, d1, d2, d3, ?_⟩
      rcases e2 with e | ⟨l, l1, e, _⟩
      · rw [e]; exact ⟨d4, d5⟩
      · rw [e, lotP_t (by omega)]
        omega
    · obtain ⟨_, e2⟩ := pl p hp
      have k200 : (200 : Int32).toInt = 200 := by decide
      rcases e2 with e | ⟨l, l1, e, er⟩
      · rw [e]
      · have lt := lotP_t (l := l) (by omega)
        exact ⟨fun y => by rw [e] at y; rw [y] at lt; omega, fun y => by rw [y] at er; omega⟩
end PK11
