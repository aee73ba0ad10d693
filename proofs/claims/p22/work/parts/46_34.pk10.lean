/-! ===== pure: BOATS of both sides: all of it (behind pk9) ===== -/
section PK10
variable {I : Nat → Int32} {J : Nat → Int64} {ri : Nat → Nat → Int32} {rj : Nat → Nat → Int64} {rq : Nat → Nat → Option Nat}
variable {U : Nat → Int32} {V : Nat → Int64} {si : Nat → Nat → Int32} {sj : Nat → Nat → Int64} {sq : Nat → Nat → Option Nat}
variable {tI : Nat → Nat → Int32} {tR : Nat → Nat → Nat → Int32}
variable {A0 : Nat → Int32} {B0 : Nat → Bool} {g r : Nat → Nat} {N L : Nat} {so : Int64}
/-! the class -/
theorem cg_19 (hR : RNG A0 B0 N) (hN : N ≤ 40) (hI : (I 0).toInt = (N : Int)) (hso : ∀ q, q < N → hb so q = B0 q) (h5 : ∀ q, q < 40 → ri 5 q = A0 (740 + 12 * q + 3)) (h1 : ∀ q, q < 40 → ri 1 q = A0 (740 + 12 * q)) : ∀ (n k : Nat) (x : Int32) (R : Nat → Nat → Int32), x.toInt = (k : Int) → 40 - k < n → k ≤ N → (∀ t, t ≠ 14 → R t = ri t) → (∀ j, j < 50 → (R 14 j).toInt = (cbN (fun z => B0 z && decide (giN A0 z = j)) k : Int)) → ∃ R' : Nat → Nat → Int32, g_X0_countGroups_L19 so I J rj rq n x R = (I, J, R', rj, rq) ∧ (∀ t, t ≠ 14 → R' t = ri t) ∧ ∀ j, j < 50 → (R' 14 j).toInt = (cbN (fun z => B0 z && decide (giN A0 z = j)) N : Int) := by
  intro n
  induction n with
  | zero => intro k _ _ _ h; exact absurd h (Nat.not_lt_zero _)
  | succ n ih =>
    intro k x R hx hn hk hO hc
    rw [g_X0_countGroups_L19_e]
    simp only [↓ap1_n, g_X0_countGroups_K57]
    by_cases c : I 0 ≤ x
    · have c1 := (le_n hI hx).mp c
      rw [if_pos c]
      exact ⟨R, rfl, hO, by rw [show N = k by omega]; exact hc⟩
    · have c1 : ¬ N ≤ k := fun y => c ((le_n hI hx).mpr y)
      have nx := up_i hx (by omega)
      have es : ∀ j, cbN (fun z => B0 z && decide (giN A0 z = j)) (k + 1) = cbN (fun z => B0 z && decide (giN A0 z = j)) k + (if (B0 k && decide (giN A0 k = j)) = true then 1 else 0) := fun j => rfl
      rw [if_neg c, hasBit_v (by omega) (by omega), at_n hx, hso k (by omega)]
      by_cases b : B0 k = true
      · have G50 := gi_50 hR (by omega : k < N) b
        obtain ⟨⟨p0, p5⟩, _⟩ := hR k (by omega) b
        have ring : g_X0_isOnRing x I J R rj rq = (1, I, J, R, rj, rq) := by
          rw [g_X0_isOnRing_e]
          simp only [↓ap1_n]
          rw [at_n hx, hO 5 (by decide), h5 k (by omega), if_neg (fun y => by
            have := Int32.le_iff_toInt_le.mp y
            have k5' : (5 : Int32).toInt = 5 := by decide
            omega)]
        obtain ⟨xg, gr, gn⟩ : ∃ xg : Int32, g_X0_groupOf x I J R rj rq = (xg, I, J, R, rj, rq) ∧ xg.toNatClampNeg = giN A0 k := by
          rw [g_X0_groupOf_e]
          simp only [↓ap1_n]
          rw [at_n hx, hO 5 (by decide), hO 1 (by decide), h5 k (by omega), h1 k (by omega)]
          exact ⟨_, rfl, rfl⟩
        rw [if_pos b, if_neg (show ¬ (1 : Int32) = 0 by decide), ring, bnI_mk, if_neg (show ¬ (1 : Int32) = 0 by decide), gr, bnI_mk, gn]
        refine ih (k + 1) _ _ nx (by omega) (by omega) (fun t ht => (va_up_ne _ _ ht).trans (hO t ht)) (fun j hj => ?_)
        rw [va_up_self, es j, b]
        by_cases e : j = giN A0 k
        · have le := cbN_le (f := fun z => B0 z && decide (giN A0 z = j)) k
          rw [← e, upd_s, decide_eq_true rfl, Bool.true_and, if_pos rfl]
          exact upN (hc j hj) (by omega)
        · rw [upd_n _ _ e, decide_eq_false (fun y => e y.symm), Bool.and_false, if_neg Bool.false_ne_true, Nat.add_zero]
          exact hc j hj
      · rw [if_neg b, if_pos (show (0 : Int32) = 0 from rfl)]
        refine ih (k + 1) _ R nx (by omega) (by omega) hO (fun j hj => ?_)
        rw [es j, show B0 k = false by simpa using b, Bool.false_and, if_neg Bool.false_ne_true, Nat.add_zero]
        exact hc j hj
theorem cg_v (hR : RNG A0 B0 N) (hN : N ≤ 40) (hI : (I 0).toInt = (N : Int)) (hso : ∀ q, q < N → hb so q = B0 q) (h5 : ∀ q, q < 40 → ri 5 q = A0 (740 + 12 * q + 3)) (h1 : ∀ q, q < 40 → ri 1 q = A0 (740 + 12 * q)) : ∃ R : Nat → Nat → Int32, g_X0_countGroups so I J ri rj rq = (I, J, R, rj, rq) ∧ (∀ t, t ≠ 14 → t ≠ 15 → R t = ri t) ∧ (∀ j, j < 50 → R 15 j = -2) ∧ ∀ q, q < N → B0 q = true → R 14 (giN A0 q) = Int32.ofNat (cbN (gpB A0 B0 q) N) := by
  have k0 : (0 : Int32).toInt = 0 := by decide
  rw [g_X0_countGroups_e]
  simp only [↓ap1_n]
  rw [va_up_ne ri (fil 0 50 (ri 14)) (show (15 : Nat) ≠ 14 by decide)]
  obtain ⟨R, e1, e2, e3⟩ := cg_19 (I := I) (J := J) (ri := va_up (va_up ri 14 (fil 0 50 (ri 14))) 15 (fil (-2) 50 (ri 15))) (rj := rj) (rq := rq) (so := so) hR hN hI hso (fun q hq => by rw [va_up_ne _ _ (show (5 : Nat) ≠ 15 by decide), va_up_ne _ _ (show (5 : Nat) ≠ 14 by decide)]; exact h5 q hq) (fun q hq => by rw [va_up_ne _ _ (show (1 : Nat) ≠ 15 by decide), va_up_ne _ _ (show (1 : Nat) ≠ 14 by decide)]; exact h1 q hq) ((40 - (0 : Int32).toInt).toNat + 1) 0 0 _ k0 (by rw [k0]; omega) (Nat.zero_le _) (fun _ _ => rfl) (fun j hj => by
    rw [va_up_ne _ _ (show (14 : Nat) ≠ 15 by decide), va_up_self]
    show ((if j < 50 then (0 : Int32) else ri 14 j)).toInt = _
    rw [if_pos hj]
    exact k0)
  refine ⟨R, e1, fun t h14 h15 => by rw [e2 t h14, va_up_ne _ _ h15, va_up_ne _ _ h14], fun j hj => ?_, fun q hq b => ?_⟩
  · rw [e2 15 (by decide), va_up_self]
    exact if_pos hj
  · have := e3 (giN A0 q) (gi_50 hR hq b)
    refine ofN_u (this.trans ?_) (Nat.le_trans (cbN_le N) (by omega))
    rfl
theorem bdq_8 {mo xN left : Int32} (hL : L ≤ 5) (hI : (I 10).toInt = (L : Int)) (hfr : ∀ (R : Nat → Nat → Int32) (x : Int32) (l : Nat), (∀ t, t ≠ 13 → R t = ri t) → x.toInt = (l : Int) → l < L → g_X0_freeBeds x I J R rj rq = (frE A0 N l, I, J, R, rj, rq)) : ∀ (n l : Nat) (x : Int32) (R : Nat → Nat → Int32), x.toInt = (l : Int) → 5 - l < n → l ≤ L → (∀ t, t ≠ 13 → R t = ri t) → (∀ j, j < l → R 13 j = frE A0 N j) → ∃ R' : Nat → Nat → Int32, g_X0_board_331_L8 so xN left mo I J rj rq n x R = g_X0_board_331_L43 so xN mo I J rj rq ((40 - ((0 : Int32)).toInt).toNat + 1) left (0 : Int32) R' ∧ (∀ t, t ≠ 13 → R' t = ri t) ∧ ∀ j, j < L → R' 13 j = frE A0 N j := by
  intro n
  induction n with
  | zero => intro l _ _ _ h; exact absurd h (Nat.not_lt_zero _)
  | succ n ih =>
    intro l x R hx hn hl hO hf
    rw [g_X0_board_331_L8_e]
    simp only [↓ap1_n]
    by_cases c : I 10 ≤ x
    · have c1 := (le_n hI hx).mp c
      rw [if_pos c]
      exact ⟨R, rfl, hO, by rw [show L = l by omega]; exact hf⟩
    · have c1 : ¬ L ≤ l := fun y => c ((le_n hI hx).mpr y)
      rw [if_neg c, hfr R x l hO hx (by omega), bnI_mk, at_n hx]
      refine ih (l + 1) _ _ (up_i hx (by omega)) (by omega) (by omega) (fun t ht => (va_up_ne _ _ ht).trans (hO t ht)) (fun j hj => ?_)
      rw [va_up_self]
      by_cases e : j = l
      · rw [e, upd_s]
      · rw [upd_n _ _ e]
        exact hf j (by omega)
/-! the reference -/
/-- one PERSON more in the reference's queue -/
theorem lm_65 {p : Nat} {mo flag xc xp : Int32} {lt : Nat → Nat → Bool} {I3 : Nat → Int32} {m : Nat → Nat → Int64} {s : Nat → Nat → Int32} {k : Int32 → Int32 → (Nat → Nat → Int32) → (Nat → Nat → Int64) → vM} (hp : xp.toInt = (p : Int)) (hA : ∀ (f : Nat → Int32) (y : Int32) (q : Nat), y.toInt = (q : Int) → q < 40 → g_X12_goesAhead xp y mo flag I3 V (va_up s 411 f) m sq = ((if lt p q = true then 1 else 0), I3, V, va_up s 411 f, m, sq)) : ∀ (Q : List Nat) (n : Nat) (x : Int32) (f : Nat → Int32), x.toInt = (Q.length : Int) → Q.length < n → Q.length ≤ 40 → RWq f Q → (∀ q, q ∈ Q → q < 40) → ∃ f' : Nat → Int32, g_X12_boatsGo_L65 mo V sq I3 flag xc xp k m n x (va_up s 411 f) = k (xc + Int32.ofInt 1) (xp + Int32.ofInt 1) (va_up s 411 f') m ∧ RWq f' (rins lt p Q) := by
  have k0 : (0 : Int32).toInt = 0 := by decide
  -- with what is left above
  have go : ∀ (Q : List Nat) (n : Nat) (x : Int32) (f : Nat → Int32), x.toInt = (Q.length : Int) → Q.length < n → Q.length ≤ 40 → RWq f Q → (∀ q, q ∈ Q → q < 40) → ∃ f' : Nat → Int32, g_X12_boatsGo_L65 mo V sq I3 flag xc xp k m n x (va_up s 411 f) = k (xc + Int32.ofInt 1) (xp + Int32.ofInt 1) (va_up s 411 f') m ∧ RWq f' (rins lt p Q) ∧ ∀ i, Q.length < i → f' i = f i := by
    intro Q
    induction Q with
    | nil =>
      intro n x f hx hn _ _ _
      have hl : ([] : List Nat).length = 0 := rfl
      obtain ⟨n, rfl⟩ : ∃ k, n = k + 1 := ⟨n - 1, by omega⟩
      rw [g_X12_boatsGo_L65_e, if_pos (show x ≤ 0 from Int32.le_iff_toInt_le.mpr (by rw [k0]; omega)), g_X12_boatsGo_K112_e]
      simp only [↓ap1_n, va_up_self, up_up]
      rw [at_n hx]
      exact ⟨_, rfl, ⟨by rw [show ([] : List Nat).length = 0 from rfl, upd_s]; exact hp, trivial⟩, fun i hi => upd_n _ _ (by omega)⟩
    | cons q Q ih =>
      intro n x f hx hn h40 hf hq
      have hl : (q :: Q).length = Q.length + 1 := rfl
      obtain ⟨n, rfl⟩ : ∃ k, n = k + 1 := ⟨n - 1, by omega⟩
      have n0 : ¬ x ≤ 0 := fun z => by
        have := Int32.le_iff_toInt_le.mp z
        rw [k0] at this
        omega
      have x1 : (x - 1).toNatClampNeg = Q.length := at_n ((i_sub hx (show (1 : Int32).toInt = 1 by decide) (by omega) (by omega)).trans (by omega))
      rw [g_X12_boatsGo_L65_e, if_neg n0]
      simp only [↓ap1_n, va_up_self, up_up]
      rw [x1, at_n hx, bn_n (hA f _ q hf.1 (hq q (List.mem_cons_self ..)))]
      have er : rins lt p (q :: Q) = (if lt p q = true then q :: rins lt p Q else p :: q :: Q) := rfl
      rw [er]
      by_cases c : lt p q = true
      · rw [if_pos c, if_neg (show ¬ (1 : Int32) = 0 by decide), if_pos c]
        have hx2 : (x + Int32.ofInt (-1)).toInt = (Q.length : Int) := (dn_i (by omega) (by omega)).trans (by omega)
        obtain ⟨f', g1, g2, g3⟩ := ih n (x + Int32.ofInt (-1)) (upd f (q :: Q).length (f Q.length)) hx2 (by omega) (by omega) (RWq_u Q hf.2 (fun i hi => upd_n _ _ (by omega))) (fun r hr => hq r (List.mem_cons_of_mem _ hr))
        refine ⟨f', g1, ⟨?_, g2⟩, fun i hi => ?_⟩
        · rw [rins_l, g3 _ (by omega), ← hl, upd_s]
          exact hf.1
        · rw [g3 i (by omega)]
          exact upd_n _ _ (by omega)
      · rw [if_neg c, if_pos (show (0 : Int32) = 0 from rfl), if_neg c, g_X12_boatsGo_K112_e]
        simp only [↓ap1_n, va_up_self, up_up]
        rw [at_n hx]
        exact ⟨_, rfl, ⟨by rw [upd_s]; exact hp, RWq_u (q :: Q) hf (fun i hi => upd_n _ _ (by omega))⟩, fun i hi => upd_n _ _ (by omega)⟩
  intro Q n x f h1 h2 h3 h4 h5
  obtain ⟨f', g1, g2, _⟩ := go Q n x f h1 h2 h3 h4 h5
  exact ⟨f', g1, g2⟩
theorem srtF_m {lt : Nat → Nat → Bool} : ∀ (k z : Nat), z ∈ srtF lt B0 k → z < k ∧ B0 z = true
  | 0, z, h => by cases h
  | k + 1, z, h => by
    have h' : z ∈ (if B0 k = true then rins lt k (srtF lt B0 k) else srtF lt B0 k) := h
    by_cases b : B0 k = true
    · rw [if_pos b] at h'
      rcases rins_m _ z h' with e | e
      · rw [e]; exact ⟨Nat.lt_succ_self _, b⟩
      · obtain ⟨a, c⟩ := srtF_m k z e
        exact ⟨by omega, c⟩
    · rw [if_neg b] at h'
      obtain ⟨a, c⟩ := srtF_m k z h'
      exact ⟨by omega, c⟩
theorem srtF_l {lt : Nat → Nat → Bool} : ∀ k : Nat, (srtF lt B0 k).length ≤ k
  | 0 => Nat.le_refl _
  | k + 1 => by
    have i := srtF_l (lt := lt) k
    show (if B0 k = true then rins lt k (srtF lt B0 k) else srtF lt B0 k).length ≤ k + 1
    split
    · rw [rins_l]; omega
    · omega
/-- the reference's queue -/
theorem bl_12 {mo flag : Int32} {I3 : Nat → Int32} {lt : Nat → Nat → Bool} {mayB : Nat → Bool} (hN : N ≤ 40) (h5 : (si 384 5).toInt = (N : Int)) (hgap : ∀ q, q < 40 → (si 384 (740 + 12 * q + 3)).toInt < 5 ∨ 100 ≤ (si 384 (740 + 12 * q + 3)).toInt) (hB : ∀ q, q < N → (B0 q = true ↔ ((si 384 (740 + 12 * q + 3)).toInt < 5 ∧ mayB q = true))) (hw : ∀ (y : Int32) (q : Nat), y.toInt = (q : Int) → q < N → (si 384 (740 + 12 * q + 3)).toInt < 5 → ∀ (s : Nat → Nat → Int32) (m : Nat → Nat → Int64), s 384 = si 384 → ∃ (h' : Nat → Int32) (g' : Nat → Int64), g_X12_isFor 3 y mo I3 V s m sq = ((if mayB q = true then 1 else 0), I3, V, va_up s 405 h', va_up m 404 g', sq)) (hA : ∀ (s : Nat → Nat → Int32) (m : Nat → Nat → Int64) (x y : Int32) (p q : Nat), s 384 = si 384 → x.toInt = (p : Int) → y.toInt = (q : Int) → p < 40 → q < 40 → g_X12_goesAhead x y mo flag I3 V s m sq = ((if lt p q = true then 1 else 0), I3, V, s, m, sq)) : ∀ (n k : Nat) (x1 x2 : Int32) (s : Nat → Nat → Int32) (m : Nat → Nat → Int64), x2.toInt = (k : Int) → 40 - k < n → k ≤ N → x1.toInt = ((srtF lt B0 k).length : Int) → RWq (s 411) (srtF lt B0 k) → (∀ q, q < k → (s 412 q = 0 ↔ B0 q = true)) → s 384 = si 384 → ∃ (xK : Int32) (s' : Nat → Nat → Int32) (m' : Nat → Nat → Int64), g_X12_boatsGo_L12 mo V si sq I3 flag n x1 x2 s m = g_X12_boatsGo_L142 mo V sq I3 xK m' ((40 - ((0 : Int32)).toInt).toNat + 1) (si 384 11) (0 : Int32) s' ∧ xK.toInt = ((srtF lt B0 N).length : Int) ∧ RWq (s' 411) (srtF lt B0 N) ∧ (∀ q, q < N → (s' 412 q = 0 ↔ B0 q = true)) ∧ s' 384 = si 384 := by
  have k0 : (0 : Int32).toInt = 0 := by decide
  have k100 : (100 : Int32).toInt = 100 := by decide
  have z11 : (11 : Int32).toNatClampNeg = 11 := by decide
  intro n
  induction n with
  | zero => intro k _ _ _ _ _ h; exact absurd h (Nat.not_lt_zero _)
  | succ n ih =>
    intro k x1 x2 s m hx2 hn hk hx1 hQ hM h384
    rw [g_X12_boatsGo_L12_e]
    simp only [↓ap1_n]
    by_cases c : si 384 5 ≤ x2
    · have c1 := (le_n h5 hx2).mp c
      have ek : N = k := by omega
      rw [if_pos c, z11, h384]
      exact ⟨x1, s, m, rfl, by rw [ek]; exact hx1, by rw [ek]; exact hQ, by rw [ek]; exact hM, h384⟩
    · have c1 : ¬ N ≤ k := fun y => c ((le_n h5 hx2).mpr y)
      have nx := up_i hx2 (by omega)
      have es : srtF lt B0 (k + 1) = (if B0 k = true then rins lt k (srtF lt B0 k) else srtF lt B0 k) := rfl
      have hBk := hB k (by omega)
      have s3 : va_up s 412 (upd (s 412) k 1) 384 = si 384 := (va_up_ne _ _ (by decide)).trans h384
      -- who isn't in
      have no : ∀ (s2 : Nat → Nat → Int32) (m2 : Nat → Nat → Int64), ¬ B0 k = true → s2 384 = si 384 → s2 411 = s 411 → (∀ q, s2 412 q = upd (s 412) k 1 q) → ∃ (xK : Int32) (s' : Nat → Nat → Int32) (m' : Nat → Nat → Int64), g_X12_boatsGo_L12 mo V si sq I3 flag n x1 (x2 + Int32.ofInt 1) s2 m2 = g_X12_boatsGo_L142 mo V sq I3 xK m' ((40 - ((0 : Int32)).toInt).toNat + 1) (si 384 11) (0 : Int32) s' ∧ xK.toInt = ((srtF lt B0 N).length : Int) ∧ RWq (s' 411) (srtF lt B0 N) ∧ (∀ q, q < N → (s' 412 q = 0 ↔ B0 q = true)) ∧ s' 384 = si 384 := fun s2 m2 nb e1 e2 e3 => by
        rw [if_neg nb] at es
        refine ih (k + 1) x1 _ s2 m2 nx (by omega) (by omega) (by rw [es]; exact hx1) (by rw [es, e2]; exact hQ) (fun q hq => ?_) e1
        rw [e3 q]
        by_cases e : q = k
        · rw [e, upd_s]
          exact ⟨fun y => absurd y (by decide), fun y => absurd y nb⟩
        · rw [upd_n _ _ e]
          exact hM q (by omega)
      rw [if_neg c, at_n hx2, g_X12_isOnRing_e, bn_n (pa3 (si := va_up s 412 (upd (s 412) k 1)) hx2 (by omega)), s3]
      by_cases o : (100 : Int32) ≤ si 384 (740 + 12 * k + 3)
      · have o1 := Int32.le_iff_toInt_le.mp o
        rw [if_pos o, bnI_mk, if_pos (show (0 : Int32) = 0 from rfl)]
        exact no _ _ (fun y => by have := (hBk.mp y).1; omega) s3 (va_up_ne _ _ (by decide)) (fun q => by rw [va_up_self])
      · have o1 : ¬ (100 : Int32).toInt ≤ (si 384 (740 + 12 * k + 3)).toInt := fun y => o (Int32.le_iff_toInt_le.mpr y)
        have ring : (si 384 (740 + 12 * k + 3)).toInt < 5 := by
          rcases hgap k (by omega) with y | y
          · exact y
          · omega
        obtain ⟨h', g', e1⟩ := hw x2 k hx2 (by omega) ring _ m s3
        rw [if_neg o, bnI_mk, if_neg (show ¬ (1 : Int32) = 0 by decide), e1, bnI_mk]
        have t384 : va_up (va_up s 412 (upd (s 412) k 1)) 405 h' 384 = si 384 := (va_up_ne _ _ (by decide)).trans s3
        have t411 : va_up (va_up s 412 (upd (s 412) k 1)) 405 h' 411 = s 411 := (va_up_ne _ _ (by decide)).trans (va_up_ne _ _ (by decide))
        have t412 : va_up (va_up s 412 (upd (s 412) k 1)) 405 h' 412 = upd (s 412) k 1 := (va_up_ne _ _ (by decide)).trans (va_up_self _ _ _)
        by_cases b : mayB k = true
        · have hb : B0 k = true := hBk.mpr ⟨ring, b⟩
          rw [if_pos hb] at es
          rw [if_pos b, if_neg (show ¬ (1 : Int32) = 0 by decide), t412, upd_upd]
          -- the state with the row of the queue told apart
          generalize eS : va_up (va_up (va_up s 412 (upd (s 412) k 1)) 405 h') 412 (upd (s 412) k 0) = S
          have S384 : S 384 = si 384 := by rw [← eS]; exact (va_up_ne _ _ (by decide)).trans t384
          have S411 : S 411 = s 411 := by rw [← eS]; exact (va_up_ne _ _ (by decide)).trans t411
          have S412 : S 412 = upd (s 412) k 0 := by rw [← eS]; exact va_up_self _ _ _
          have lk := srtF_l (B0 := B0) (lt := lt) k
          obtain ⟨f', g1, g2⟩ := lm_65 (V := V) (sq := sq) (p := k) (mo := mo) (flag := flag) (xc := x1) (xp := x2) (lt := lt) (I3 := I3) (m := va_up m 404 g') (s := S) (k := g_X12_boatsGo_L12 mo V si sq I3 flag n) hx2 (fun f y q hy hq => hA _ _ x2 y k q ((va_up_ne _ _ (by decide)).trans S384) hx2 hy (by omega) hq) (srtF lt B0 k) ((x1.toInt).toNat + 1) x1 (S 411) hx1 (by rw [hx1]; omega) (by omega) (by rw [S411]; exact hQ) (fun q hq => by have := (srtF_m k q hq).1; omega)
          rw [up_id] at g1
          rw [g1]
          refine ih (k + 1) _ _ _ _ nx (by omega) (by omega) ?_ (by rw [es, va_up_self]; exact g2) (fun q hq => ?_) ((va_up_ne _ _ (by decide)).trans S384)
          · rw [es, rins_l]
            exact up_i hx1 (by omega)
          · rw [va_up_ne _ _ (show (412 : Nat) ≠ 411 by decide), S412]
            by_cases e : q = k
            · rw [e, upd_s]
              exact ⟨fun _ => hb, fun _ => rfl⟩
            · rw [upd_n _ _ e]
              exact hM q (by omega)
        · rw [if_neg b, if_pos (show (0 : Int32) = 0 from rfl)]
          exact no _ _ (fun y => b (hBk.mp y).2) t384 t411 (fun q => by rw [t412])
/-- without BOATS nobody goes -/
theorem bz_142 {mo xK left : Int32} {K : Nat} {row : Nat → Int32} {I3 : Nat → Int32} {m : Nat → Nat → Int64} (hN : N ≤ 40) (hxK : xK.toInt = (K : Int)) (hK : K ≤ 40) (hL : L ≤ 5) (h4 : (si 384 4).toInt = (L : Int)) (h5 : (si 384 5).toInt = (N : Int)) (hr : ∀ k, k < K → (row k).toInt = (r k : Int) ∧ r k < N) (hl : left.toInt ≤ 0) : ∀ (nm k : Nat) (y2 : Int32) (s : Nat → Nat → Int32), y2.toInt = (k : Int) → 40 - k < nm → k ≤ K → s 411 = row → (∀ j, (∀ q k, q < 40 → k ∈ [3, 7] → j ≠ 740 + 12 * q + k) → s 384 j = si 384 j) → (∀ q, q < 40 → s 384 (740 + 12 * q + 3) = si 384 (740 + 12 * q + 3)) → ∃ s' : Nat → Nat → Int32, g_X12_boatsGo_L142 mo V sq I3 xK m nm left y2 s = (I3, V, s', m, sq) ∧ (∀ j, (∀ q k, q < 40 → k ∈ [3, 7] → j ≠ 740 + 12 * q + k) → s' 384 j = si 384 j) ∧ ∀ q, q < 40 → s' 384 (740 + 12 * q + 3) = si 384 (740 + 12 * q + 3) := by
  intro nm
  induction nm with
  | zero => intro k _ _ _ h; exact absurd h (Nat.not_lt_zero _)
  | succ nm ih =>
    intro k y2 s hy hn hk h411 hO hP
    rw [g_X12_boatsGo_L142_e]
    by_cases c : xK ≤ y2
    · rw [if_pos c]
      exact ⟨s, rfl, hO, hP⟩
    · have c1 : ¬ K ≤ k := fun y => c ((le_n hxK hy).mpr y)
      have ny := up_i hy (by omega)
      obtain ⟨r1, r2⟩ := hr k (by omega)
      rw [if_neg c]
      simp only [↓ap1_n, g_X12_boatsGo_K182]
      rw [at_n hy, h411, at_n r1]
      by_cases z : s 412 (r k) = 0
      · have e4 : s 384 4 = si 384 4 := hO 4 (fun q k _ hk2 => by simp only [List.mem_cons, List.not_mem_nil, or_false] at hk2; omega)
        have e5 : s 384 5 = si 384 5 := hO 5 (fun q k _ hk2 => by simp only [List.mem_cons, List.not_mem_nil, or_false] at hk2; omega)
        have hM : fmM s (r k) (r k) = true := decide_eq_true ⟨z, rfl, rfl⟩
        obtain ⟨s1, v1, v2⟩ := family_v (U := I3) (V := V) (si := s) (sj := m) (sq := sq) (a1 := mo) (a2 := left) (by rw [e5]; exact h5) hN (by rw [e4]; exact h4) hL r1 r2 hM
        have pos : 1 ≤ cbN (fmM s (r k)) N := cbN_1 r2 hM
        have cl := cbN_le (f := fmM s (r k)) N
        have lt : left < Int32.ofNat (cbN (fmM s (r k)) N) := Int32.lt_iff_toInt_lt.mpr (by rw [ofN_t (by omega)]; omega)
        rw [if_pos (Or.inl lt)] at v1 v2
        have l0 : left - 0 = left := by grind
        rw [if_pos z, v1, bnI_mk, l0]
        refine ih (k + 1) _ s1 ny (by omega) (by omega) ((v2.1 411 (by decide) (by decide)).trans h411) (fun j hj => (v2.2.2.2 j hj).trans (hO j hj)) (fun q hq => ?_)
        have := v2.2.2.1 q hq
        exact this.trans (hP q hq)
      · rw [if_neg z]
        exact ih (k + 1) _ s ny (by omega) (by omega) h411 hO hP
end PK10
