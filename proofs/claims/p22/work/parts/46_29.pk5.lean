/-! ===== pure: a death, both sides (behind pk4) ===== -/
section PK5
variable {I : Nat → Int32} {J : Nat → Int64} {ri : Nat → Nat → Int32} {rj : Nat → Nat → Int64} {rq : Nat → Nat → Option Nat}
variable {U : Nat → Int32} {V : Nat → Int64} {si : Nat → Nat → Int32} {sj : Nat → Nat → Int64} {sq : Nat → Nat → Option Nat}
variable {tI : Nat → Nat → Int32} {tR : Nat → Nat → Nat → Int32}
/-- who holds the TITLES -/
def HLD (I : Nat → Int32) (ri : Nat → Nat → Int32) (A : Nat → Int32) : Prop := ∀ c, c < 40 → (c < (I 65).toNatClampNeg → ri 325 c = A (100 + 16 * c + 14) ∧ (-1 ≤ (A (100 + 16 * c + 14)).toInt ∧ (A (100 + 16 * c + 14)).toInt ≤ 39)) ∧ ((I 65).toNatClampNeg ≤ c → ri 325 c = -1)
/-- the LOTS -/
def LTS (I : Nat → Int32) (ri : Nat → Nat → Int32) (A : Nat → Int32) : Prop := I 10 = A 4 ∧ (0 ≤ (A 4).toInt ∧ (A 4).toInt ≤ 5) ∧ ∀ l, l < 5 → ri 11 l = A (80 + l) ∧ (0 ≤ (A (80 + l)).toInt ∧ (A (80 + l)).toInt ≤ 60)
/-- which CELLS are DRY, how long they have been UNDER -/
def DRU (I : Nat → Int32) (J : Nat → Int64) (ri : Nat → Nat → Int32) (A : Nat → Int32) : Prop := ∀ c, c < 40 → A (100 + 16 * c + 12) = (if hb (J 67) c = true then 1 else 0) ∧ ri 77 c = A (100 + 16 * c + 11) ∧ (0 ≤ (A (100 + 16 * c + 11)).toInt ∧ (A (100 + 16 * c + 11)).toInt ≤ (A 0).toInt) ∧ ((I 65).toNatClampNeg ≤ c → hb (J 67) c = false)
section CG
variable {I1 : Nat → Int32} {J1 : Nat → Int64} {r1 : Nat → Nat → Int32} {A A1 : Nat → Int32}
theorem FLK_cg (h : FLK I ri A) (h0 : I1 0 = I 0) (hr : ∀ t, t ∈ [1, 2, 3, 4, 5, 9] → ∀ p, p < 40 → r1 t p = ri t p) (h5 : A1 5 = A 5) (hA : ∀ p k, p < 40 → k ∈ [0, 1, 2, 3, 4, 8] → A1 (740 + 12 * p + k) = A (740 + 12 * p + k)) : FLK I1 r1 A1 := by
  obtain ⟨a, b, c⟩ := h
  refine ⟨h0.trans (a.trans h5.symm), by rw [h5]; exact b, fun p hp => ?_⟩
  have e0 : A1 (740 + 12 * p) = A (740 + 12 * p) := hA p 0 hp (by decide)
  rw [hr 1 (by decide) p hp, hr 2 (by decide) p hp, hr 3 (by decide) p hp, hr 5 (by decide) p hp, hr 4 (by decide) p hp, hr 9 (by decide) p hp, e0, hA p 1 hp (by decide), hA p 2 hp (by decide), hA p 3 hp (by decide), hA p 4 hp (by decide), hA p 8 hp (by decide)]
  exact c p hp
theorem HLD_cg (h : HLD I ri A) (h65 : I1 65 = I 65) (hr : ∀ c, c < 40 → r1 325 c = ri 325 c) (hA : ∀ c, c < 40 → A1 (100 + 16 * c + 14) = A (100 + 16 * c + 14)) : HLD I1 r1 A1 := fun c hc => by
  rw [h65, hr c hc, hA c hc]
  exact h c hc
theorem LTS_cg (h : LTS I ri A) (h10 : I1 10 = I 10) (hr : ∀ l, l < 5 → r1 11 l = ri 11 l) (h4 : A1 4 = A 4) (hA : ∀ l, l < 5 → A1 (80 + l) = A (80 + l)) : LTS I1 r1 A1 := by
  obtain ⟨a, b, c⟩ := h
  refine ⟨h10.trans (a.trans h4.symm), by rw [h4]; exact b, fun l hl => ?_⟩
  rw [hr l hl, hA l hl]
  exact c l hl
theorem DRU_cg (h : DRU I J ri A) (h65 : I1 65 = I 65) (hJ : ∀ c, c < 40 → hb (J1 67) c = hb (J 67) c) (hr : ∀ c, c < 40 → r1 77 c = ri 77 c) (h0 : A1 0 = A 0) (hA : ∀ c k, c < 40 → k ∈ [11, 12] → A1 (100 + 16 * c + k) = A (100 + 16 * c + k)) : DRU I1 J1 r1 A1 := fun c hc => by
  rw [h65, hJ c hc, hr c hc, h0, hA c 11 hc (by decide), hA c 12 hc (by decide)]
  exact h c hc
/-- a PERSON goes to another PLACE -/
theorem FLK_3 {p : Nat} {v : Int32} (h : FLK I ri A) (hp : p < 40) (hv : (0 ≤ v.toInt ∧ v.toInt ≤ 300) ∧ (v.toInt < 5 ∨ 100 ≤ v.toInt)) : FLK I (va_up ri 5 (upd (ri 5) p v)) (upd A (740 + 12 * p + 3) v) := by
  obtain ⟨a, b, c⟩ := h
  have o : ∀ t, t ≠ 5 → va_up ri 5 (upd (ri 5) p v) t = ri t := fun t ht => va_up_ne _ _ ht
  refine ⟨by rw [upd_n _ _ (by omega)]; exact a, by rw [upd_n _ _ (by omega)]; exact b, fun q hq => ?_⟩
  obtain ⟨⟨c1, c2, c3, c4, c5, c6⟩, d1, d2, d3, d4⟩ := c q hq
  rw [o 1 (by decide), o 2 (by decide), o 3 (by decide), o 4 (by decide), o 9 (by decide), va_up_self, upd_n A v (show 740 + 12 * q ≠ 740 + 12 * p + 3 by omega), upd_n A v (show 740 + 12 * q + 1 ≠ 740 + 12 * p + 3 by omega), upd_n A v (show 740 + 12 * q + 2 ≠ 740 + 12 * p + 3 by omega), upd_n A v (show 740 + 12 * q + 4 ≠ 740 + 12 * p + 3 by omega), upd_n A v (show 740 + 12 * q + 8 ≠ 740 + 12 * p + 3 by omega)]
  by_cases e : q = p
  · rw [e, upd_s, upd_s]
    rw [e] at c1 c2 c3 c4 c5 c6 d1 d2 d3 d4
    exact ⟨⟨c1, c2, c3, rfl, c5, c6⟩, d1, d2, d3, hv⟩
  · rw [upd_n (ri 5) v e, upd_n A v (show 740 + 12 * q + 3 ≠ 740 + 12 * p + 3 by omega)]
    exact ⟨⟨c1, c2, c3, c4, c5, c6⟩, d1, d2, d3, d4⟩
end CG
/-! the first of the queue -/
def dl (g : Nat → Nat) : Nat → List Nat
  | 0 => []
  | k + 1 => g k :: dl g k
theorem RWq_dl {f : Nat → Int32} : ∀ L : List Nat, RWq f L → L = dl (fun j => (f j).toInt.toNat) L.length
  | [], _ => rfl
  | q :: Q, h => by
    show q :: Q = (f Q.length).toInt.toNat :: dl (fun j => (f j).toInt.toNat) Q.length
    rw [← RWq_dl Q h.2, h.1]
    rfl
theorem RWq_at {f : Nat → Int32} : ∀ (L : List Nat) (j : Nat), RWq f L → j < L.length → 0 ≤ (f j).toInt ∧ (f j).toInt.toNat ∈ L
  | [], _, _, h => absurd h (Nat.not_lt_zero _)
  | q :: Q, j, h, hj => by
    have hl : (q :: Q).length = Q.length + 1 := rfl
    by_cases e : j = Q.length
    · rw [e, h.1]
      exact ⟨Int.natCast_nonneg _, List.mem_cons_self ..⟩
    · obtain ⟨a, b⟩ := RWq_at Q j h.2 (by omega)
      exact ⟨a, List.mem_cons_of_mem _ b⟩
theorem qf_0 {g : Nat → Nat} {B : Nat → Bool} : ∀ N : Nat, (∀ j, j < N → ¬ B (g j) = true) → (dl g N).filter B = []
  | 0, _ => rfl
  | N + 1, h => by
    show List.filter B (g N :: dl g N) = []
    rw [List.filter_cons_of_neg (h N (Nat.lt_succ_self _))]
    exact qf_0 N (fun j hj => h j (by omega))
theorem qf_1 {g : Nat → Nat} {B : Nat → Bool} {i : Nat} (hi : B (g i) = true) (h : ∀ j, j < i → ¬ B (g j) = true) : ∀ N : Nat, i < N → qfi ((dl g N).filter B) = some (g i)
  | 0, h0 => absurd h0 (Nat.not_lt_zero _)
  | N + 1, h0 => by
    show qfi (List.filter B (g N :: dl g N)) = some (g i)
    by_cases e : i = N
    · subst e
      rw [List.filter_cons_of_pos hi, qf_0 i h]
      rfl
    · have ih := qf_1 hi h N (by omega)
      by_cases b : B (g N) = true
      · rw [List.filter_cons_of_pos b, qfi_c, ih]
      · rw [List.filter_cons_of_neg b]
        exact ih
theorem srtF_s {lt : Nat → Nat → Bool} {B : Nat → Bool} (hS : SWO lt) : ∀ k, RSD lt (srtF lt B k)
  | 0 => trivial
  | k + 1 => by
    show RSD lt (if B k = true then rins lt k (srtF lt B k) else srtF lt B k)
    split
    · exact rins_s hS _ (srtF_s hS k)
    · exact srtF_s hS k
/-- v is the first of the queue, or -1 without -/
def QF (v : Int32) (o : Option Nat) : Prop := (v = -1 ∧ o = none) ∨ ∃ z : Nat, z < 40 ∧ v.toInt = (z : Int) ∧ o = some z
theorem QF_u {v w : Int32} {o : Option Nat} (h1 : QF v o) (h2 : QF w o) : v = w := by
  rcases h1 with ⟨a, b⟩ | ⟨z, _, a, b⟩ <;> rcases h2 with ⟨c, d⟩ | ⟨y, _, c, d⟩
  · rw [a, c]
  · rw [b] at d; cases d
  · rw [b] at d; cases d
  · rw [b] at d
    have := Option.some.inj d
    subst this
    exact Int32.toInt_inj.mp (a.trans c.symm)
theorem QF_b {v : Int32} {o : Option Nat} (h : QF v o) : -1 ≤ v.toInt ∧ v.toInt ≤ 39 := by
  rcases h with ⟨a, _⟩ | ⟨z, h1, h2, _⟩
  · rw [a]; decide
  · omega
/-- the class seeks the heir -/
theorem hl_22 {a0 : Int32} {N : Nat} {R : Nat → Nat → Int32} {g : Nat → Nat} {B : Nat → Bool} (hN : (I 0).toInt = (N : Int)) (hN40 : N ≤ 40) (hg : ∀ j, j < N → (R 331 j).toInt = (g j : Int) ∧ g j < 40) (hB : ∀ j, j < N → (B (g j) = true ↔ (R 1 (g j) = R 1 a0.toNatClampNeg ∧ R 5 (g j) ≠ 300))) : ∀ (n i : Nat) (x : Int32), x.toInt = (i : Int) → 40 - i < n → i ≤ N → (∀ j, j < i → ¬ B (g j) = true) → ∃ v : Int32, g_X10_heirOf_L22 a0 I J rj rq R n x = (v, I, J, R, rj, rq) ∧ QF v (qfi ((dl g N).filter B)) := by
  intro n
  induction n with
  | zero => intro i x _ h; exact absurd h (Nat.not_lt_zero _)
  | succ n ih =>
    intro i x hx hn hi hb0
    rw [g_X10_heirOf_L22_e]
    simp only [↓ap1_n, g_X10_heirOf_K78]
    by_cases c : I 0 ≤ x
    · have c1 := (le_n hN hx).mp c
      rw [if_pos c]
      refine ⟨-1, rfl, Or.inl ⟨rfl, ?_⟩⟩
      rw [qf_0 N (fun j hj => hb0 j (by omega))]
      rfl
    · have c1 : ¬ N ≤ i := fun y => c ((le_n hN hx).mpr y)
      obtain ⟨g1, g2⟩ := hg i (by omega)
      have nx := up_i hx (by omega)
      have hBi := hB i (by omega)
      rw [if_neg c, at_n hx, at_n g1]
      have next : ¬ B (g i) = true → ∃ v : Int32, g_X10_heirOf_L22 a0 I J rj rq R n (x + Int32.ofInt 1) = (v, I, J, R, rj, rq) ∧ QF v (qfi ((dl g N).filter B)) := fun hno => ih (i + 1) _ nx (by omega) (by omega) (fun j hj => by
        by_cases e : j = i
        · rw [e]; exact hno
        · exact hb0 j (by omega))
      by_cases k : R 1 (g i) = R 1 a0.toNatClampNeg
      · rw [if_pos k]
        by_cases d : R 5 (g i) = 300
        · rw [if_pos d]
          exact next (fun y => (hBi.mp y).2 d)
        · rw [if_neg d]
          exact ⟨_, rfl, Or.inr ⟨g i, g2, g1, qf_1 (hBi.mpr ⟨k, d⟩) hb0 N (by omega)⟩⟩
      · rw [if_neg k]
        exact next (fun y => k (hBi.mp y).1)
/-- the reference seeks the heir -/
theorem hm_58 {a0 y1 : Int32} {N P : Nat} {r1 : Nat → Nat → Int32} {I1 : Nat → Int32} {o : Option (List Int32)} {B : Nat → Bool} (ha : a0.toInt = (P : Int)) (hP : P < 40) (hN : (si 384 5).toInt = (N : Int)) (hN40 : N ≤ 40) (hB : ∀ p, p < N → (B p = true ↔ (r1 384 (740 + 12 * p) = r1 384 (740 + 12 * P) ∧ r1 384 (740 + 12 * p + 3) ≠ 300))) (hA : ∀ E, o = some E → ∀ (x y : Int32) (p q : Nat), x.toInt = (p : Int) → y.toInt = (q : Int) → p < 40 → q < 40 → g_X12_isAhead x y y1 I1 V r1 sj sq = ((if ahd (r1 384) E p q = true then 1 else 0), I1, V, r1, sj, sq)) : ∀ (n k : Nat) (x2 x1 : Int32), x2.toInt = (k : Int) → 40 - k < n → k ≤ N → QF x1 (qfi (srtF (ltk (r1 384) o) B k)) → ∃ v : Int32, g_X12_death_L58 a0 V si sj sq r1 y1 I1 (if o = none then 0 else 1) n x1 x2 = g_X12_death_L140 a0 V si sj sq I1 v ((40 - ((0 : Int32)).toInt).toNat + 1) (0 : Int32) (0 : Int32) r1 ∧ QF v (qfi (srtF (ltk (r1 384) o) B N)) := by
  have k0 : (0 : Int32).toInt = 0 := by decide
  intro n
  induction n with
  | zero => intro k _ _ _ h; exact absurd h (Nat.not_lt_zero _)
  | succ n ih =>
    intro k x2 x1 hx hn hk hq
    rw [g_X12_death_L58_e]
    simp only [↓ap1_n, g_X12_death_K125, g_X12_death_K128]
    by_cases c : si 384 5 ≤ x2
    · have c1 := (le_n hN hx).mp c
      rw [if_pos c]
      exact ⟨x1, rfl, by rw [show N = k by omega]; exact hq⟩
    · have c1 : ¬ N ≤ k := fun y => c ((le_n hN hx).mpr y)
      have nx := up_i hx (by omega)
      have hBk := hB k (by omega)
      have es : srtF (ltk (r1 384) o) B (k + 1) = (if B k = true then rins (ltk (r1 384) o) k (srtF (ltk (r1 384) o) B k) else srtF (ltk (r1 384) o) B k) := rfl
      have fi := rins_fi (p := k) (ltk_s (A := r1 384) (o := o)) _ (srtF_s (B := B) (ltk_s (A := r1 384) (o := o)) k)
      have no : ¬ B k = true → ∃ v : Int32, g_X12_death_L58 a0 V si sj sq r1 y1 I1 (if o = none then 0 else 1) n x1 (x2 + Int32.ofInt 1) = g_X12_death_L140 a0 V si sj sq I1 v ((40 - ((0 : Int32)).toInt).toNat + 1) (0 : Int32) (0 : Int32) r1 ∧ QF v (qfi (srtF (ltk (r1 384) o) B N)) := fun hno => ih (k + 1) _ _ nx (by omega) (by omega) (by rw [es, if_neg hno]; exact hq)
      rw [if_neg c, bn_n (pa0 (si := r1) hx (by omega)), bn_n (pa0 (si := r1) ha hP)]
      by_cases e1 : r1 384 (740 + 12 * k) = r1 384 (740 + 12 * P)
      · rw [if_pos e1, bn_n (pa3 (si := r1) hx (by omega))]
        by_cases e2 : r1 384 (740 + 12 * k + 3) = 300
        · rw [if_pos e2]
          exact no (fun y => (hBk.mp y).2 e2)
        · have hb1 : B k = true := hBk.mpr ⟨e1, e2⟩
          have yes : QF x2 (qfi (srtF (ltk (r1 384) o) B (k + 1))) → ∃ v : Int32, g_X12_death_L58 a0 V si sj sq r1 y1 I1 (if o = none then 0 else 1) n x2 (x2 + Int32.ofInt 1) = g_X12_death_L140 a0 V si sj sq I1 v ((40 - ((0 : Int32)).toInt).toNat + 1) (0 : Int32) (0 : Int32) r1 ∧ QF v (qfi (srtF (ltk (r1 384) o) B N)) := fun h => ih (k + 1) _ _ nx (by omega) (by omega) h
          have stay : QF x1 (qfi (srtF (ltk (r1 384) o) B (k + 1))) → ∃ v : Int32, g_X12_death_L58 a0 V si sj sq r1 y1 I1 (if o = none then 0 else 1) n x1 (x2 + Int32.ofInt 1) = g_X12_death_L140 a0 V si sj sq I1 v ((40 - ((0 : Int32)).toInt).toNat + 1) (0 : Int32) (0 : Int32) r1 ∧ QF v (qfi (srtF (ltk (r1 384) o) B N)) := fun h => ih (k + 1) _ _ nx (by omega) (by omega) h
          rw [if_neg e2]
          rcases hq with ⟨q1, q2⟩ | ⟨z, z1, z2, z3⟩
          · rw [if_pos (show x1 < 0 by rw [q1]; decide)]
            refine yes ?_
            rw [es, if_pos hb1, fi, q2]
            exact Or.inr ⟨k, by omega, hx, rfl⟩
          · have nz : ¬ x1 < 0 := fun y => by
              have := Int32.lt_iff_toInt_lt.mp y
              rw [k0] at this
              omega
            rw [if_neg nz]
            rw [z3] at fi
            have fi : qfi (rins (ltk (r1 384) o) k (srtF (ltk (r1 384) o) B k)) = (if ltk (r1 384) o k z = true then some k else some z) := fi
            cases ho : o with
            | none =>
              rw [ho] at fi es stay
              rw [if_pos (show (if (none : Option (List Int32)) = none then (0 : Int32) else 1) = 0 by rw [if_pos rfl])]
              refine stay ?_
              rw [es, if_pos hb1, fi]
              exact Or.inr ⟨z, z1, z2, if_neg Bool.false_ne_true⟩
            | some E =>
              rw [ho] at fi es stay yes
              rw [if_neg (show ¬ (if (some E : Option (List Int32)) = none then (0 : Int32) else 1) = 0 by rw [if_neg (by simp)]; decide), bn_n (hA E ho x2 x1 k z hx z2 (by omega) z1)]
              have fi : qfi (rins (ltk (r1 384) (some E)) k (srtF (ltk (r1 384) (some E)) B k)) = (if ahd (r1 384) E k z = true then some k else some z) := fi
              by_cases l : ahd (r1 384) E k z = true
              · rw [if_pos l, if_neg (show ¬ (1 : Int32) = 0 by decide)]
                refine yes ?_
                rw [es, if_pos hb1, fi, if_pos l]
                exact Or.inr ⟨k, by omega, hx, rfl⟩
              · rw [if_neg l, if_pos (show (0 : Int32) = 0 from rfl)]
                refine stay ?_
                rw [es, if_pos hb1, fi, if_neg l]
                exact Or.inr ⟨z, z1, z2, rfl⟩
      · rw [if_neg e1]
        exact no (fun y => e1 (hBk.mp y).1)
/-- TITLES pass, on both sides -/
theorem pt_sim {a0 v : Int32} {N : Nat} {I1 : Nat → Int32} (hv : -1 ≤ v.toInt ∧ v.toInt ≤ 39) (hI : (I 65).toInt = (N : Int)) (hS : (si 384 2).toInt = (N : Int)) (hN : N ≤ 40) : ∀ (n c : Nat) (x cnt : Int32) (R s : Nat → Nat → Int32), x.toInt = (c : Int) → 40 - c < n → c ≤ N → HLD I R (s 384) → ∃ (z : Int32) (R' s' : Nat → Nat → Int32), g_X10_passTitles_L5 a0 v I J rj rq n cnt x R = (z, I, J, R', rj, rq) ∧ g_X12_death_L140 a0 V si sj sq I1 v n cnt x s = (z, I1, V, s', sj, sq) ∧ HLD I R' (s' 384) ∧ (∀ t, t ≠ 325 → R' t = R t) ∧ (∀ t, t ≠ 384 → s' t = s t) ∧ ∀ i, (∀ c, c < 40 → i ≠ 100 + 16 * c + 14) → s' 384 i = s 384 i := by
  intro n
  induction n with
  | zero => intro c _ _ _ _ _ h; exact absurd h (Nat.not_lt_zero _)
  | succ n ih =>
    intro c x cnt R s hx hn hc hH
    rw [g_X10_passTitles_L5_e, g_X12_death_L140_e]
    simp only [↓ap1_n, g_X10_passTitles_K39, g_X12_death_K186]
    by_cases d : I 65 ≤ x
    · have d1 := (le_n hI hx).mp d
      rw [if_pos d, if_pos ((le_n hS hx).mpr d1)]
      exact ⟨cnt, R, s, rfl, rfl, hH, fun _ _ => rfl, fun _ _ => rfl, fun _ _ => rfl⟩
    · have d1 : ¬ N ≤ c := fun y => d ((le_n hI hx).mpr y)
      have nx := up_i hx (by omega)
      have i14 : ((100 : Int32) + (16 : Int32) * x + 14).toNatClampNeg = 100 + 16 * c + 14 := by rw [ixk (c := x) (k := 14) 14 (by decide) (by decide) (by omega) (by omega), at_n hx]
      have e14 : g_X12_cellAt_c14 x I1 V s sj sq = (s 384 (100 + 16 * c + 14), I1, V, s, sj, sq) := by
        rw [g_X12_cellAt_c14_e]
        simp only [↓ap1_n]
        rw [i14]
      rw [if_neg d, if_neg (fun y => d1 ((le_n hS hx).mp y)), at_n hx, bn_n e14, ((hH c (by omega)).1 (by rw [at_n hI]; omega)).1]
      by_cases q : s 384 (100 + 16 * c + 14) = a0
      · rw [if_pos q, if_pos q, i14]
        obtain ⟨z, R', s', g1, g2, g3, g4, g5, g6⟩ := ih (c + 1) (x + Int32.ofInt 1) (cnt + Int32.ofInt 1) (va_up R 325 (upd (R 325) c v)) (va_up s 384 (upd (s 384) (100 + 16 * c + 14) v)) nx (by omega) (by omega) (fun c2 h2 => by
          rw [va_up_self, va_up_self]
          by_cases e : c2 = c
          · rw [e, upd_s, upd_s]
            exact ⟨fun _ => ⟨rfl, hv⟩, fun y => by rw [at_n hI] at y; omega⟩
          · rw [upd_n _ _ e, upd_n _ _ (by omega)]
            exact hH c2 h2)
        refine ⟨z, R', s', g1, g2, g3, fun t ht => (g4 t ht).trans (va_up_ne _ _ ht), fun t ht => (g5 t ht).trans (va_up_ne _ _ ht), fun i hi => ?_⟩
        rw [g6 i hi, va_up_self, upd_n _ _ (hi c (by omega))]
      · rw [if_neg q, if_neg q]
        exact ih (c + 1) _ cnt R s nx (by omega) (by omega) hH
/-- answer and PERSONS and TITLES -/
def FH (b c : Int32 × vM) : Prop := b.1 = c.1 ∧ FLK b.2.1 b.2.2.2.1 (c.2.2.2.1 384) ∧ HLD b.2.1 b.2.2.2.1 (c.2.2.2.1 384)
theorem death_F {a0 : Int32} (h : RSL I ri (si 384)) (hT : TXS I rq tI tR (si 384)) (hF : FCS I ri (si 384)) (hK : FLK I ri (si 384)) (hH : HLD I ri (si 384)) : FH (g_X11_death tI tR a0 I J ri rj rq) (g_X12_death a0 U V si sj sq) := by
  have k0 : (0 : Int32).toInt = 0 := by decide
  obtain ⟨⟨_, ⟨c0, c4⟩, _⟩, ⟨_, ⟨p0, p4⟩, _⟩, ⟨e0, _, e2, _⟩, _⟩ := h
  have e5 := hK.1
  by_cases q1 : bt a0 0 (I 0 - 1) = 0
  · have c1 : g_X11_death tI tR a0 I J ri rj rq = (-1, I, J, ri, rj, rq) := by
      rw [g_X11_death_e, isPerson_c, bnI_mk, if_pos q1]; rfl
    have c2 : g_X12_death a0 U V si sj sq = (-1, U, V, si, sj, sq) := by
      rw [g_X12_death_e, isPerson_m, bnI_mk, if_pos (by rw [← e5]; exact q1)]; rfl
    unfold FH
    rw [c1, c2]
    exact ⟨rfl, hK, hH⟩
  · have b := bt_cell (n := I 0) (by rw [e5]; exact p0) (by rw [e5]; exact p4) q1
    have a39 : a0.toInt ≤ 39 := by rw [e5] at b; omega
    obtain ⟨P, hP⟩ : ∃ P : Nat, a0.toInt = (P : Int) := ⟨a0.toInt.toNat, by omega⟩
    have P40 : P < 40 := by omega
    have q3 : bt a0 0 (si 384 5 - 1) ≠ 0 := by rw [← e5]; exact q1
    have e3 : ri 5 P = si 384 (740 + 12 * P + 3) := (hK.2.2 P P40).1.2.2.2.1
    by_cases q2 : ri 5 a0.toNatClampNeg = 300
    · have c1 : g_X11_death tI tR a0 I J ri rj rq = (-1, I, J, ri, rj, rq) := by
        rw [g_X11_death_e, isPerson_c, bnI_mk, if_neg q1]
        simp only [↓ap1_n]
        rw [if_pos q2]; rfl
      have c2 : g_X12_death a0 U V si sj sq = (-1, U, V, si, sj, sq) := by
        rw [at_n hP, e3] at q2
        rw [g_X12_death_e, isPerson_m, bnI_mk, if_neg q3, bn_n (pa3 hP P40), if_pos q2]; rfl
      unfold FH
      rw [c1, c2]
      exact ⟨rfl, hK, hH⟩
    · rw [at_n hP] at q2
      obtain ⟨N, hN⟩ : ∃ N : Nat, (si 384 5).toInt = (N : Int) := ⟨(si 384 5).toInt.toNat, by omega⟩
      have N40 : N ≤ 40 := by omega
      have hI0 : (I 0).toInt = (N : Int) := by rw [e5]; exact hN
      obtain ⟨C, hC⟩ : ∃ C : Nat, (I 65).toInt = (C : Int) := ⟨(I 65).toInt.toNat, by omega⟩
      -- dead
      have hK1 := FLK_3 (p := P) (v := 300) hK P40 (by decide)
      generalize eR : va_up ri 5 (upd (ri 5) P 300) = R at hK1
      generalize eA : upd (si 384) (740 + 12 * P + 3) 300 = A at hK1
      have aA : ∀ i, (∀ p, p < 40 → i ≠ 740 + 12 * p + 3) → A i = si 384 i := fun i hi => by rw [← eA, upd_n _ _ (hi P P40)]
      have oR : ∀ t, t ≠ 5 → R t = ri t := fun t ht => by rw [← eR, va_up_ne _ _ ht]
      have hT1 : TXS I rq tI tR (va_up si 384 A 384) := by
        rw [va_up_self]
        refine TXS_cg hT rfl (fun _ _ => rfl) (fun _ _ _ _ => ⟨rfl, fun _ _ => rfl⟩) (fun j hj => aA j (fun p hp => ?_))
        rcases lz_x hj with y | y <;> omega
      have hF1 : FCS I R (va_up si 384 A 384) := by
        rw [va_up_self]
        refine FCS_cg hF rfl (fun t ht j _ => by rw [oR t (fun q : t = 5 => by rw [q] at ht; exact absurd ht (by decide))]) (aA 7 (fun p hp => by omega)) (fun i h1 h2 => aA i (fun p hp => by omega)) ?_
        rw [aA 6 (fun p hp => by omega)]
        exact Int.le_refl _
      have hK2 : FLK I R (va_up si 384 A 384) := by rw [va_up_self]; exact hK1
      obtain ⟨o, f, K, l1, l2, l3, l4⟩ := line_v (I := I) (J := J) (ri := R) (rj := rj) (rq := rq) (U := U) (V := V) (si := va_up si 384 A) (sj := sj) (sq := sq) (tI := tI) (tR := tR) (a := 5) (mo := si 384 0) (N := N) (Or.inr (by decide)) hT1 hF1 hK2 hI0
      rw [show srC 5 = 6 by decide] at l3
      have B := fun p : Nat => decide (A (740 + 12 * p) = A (740 + 12 * P) ∧ A (740 + 12 * p + 3) ≠ 300)
      -- the class's heir
      have sl := srt_l (lt := ltk A o) N
      rw [va_up_self] at l2 l4
      have L := RWq_dl _ l2
      rw [sl] at L
      have hB1 : ∀ z, z < 40 → (decide (A (740 + 12 * z) = A (740 + 12 * P) ∧ A (740 + 12 * z + 3) ≠ 300) = true ↔ (va_up R 331 f 1 z = va_up R 331 f 1 a0.toNatClampNeg ∧ va_up R 331 f 5 z ≠ 300)) := fun z hz => by
        obtain ⟨x1, _, _, x4, _⟩ := (hK1.2.2 z hz).1
        obtain ⟨y1, _⟩ := (hK1.2.2 P P40).1
        rw [va_up_ne _ _ (show (1 : Nat) ≠ 331 by decide), va_up_ne _ _ (show (5 : Nat) ≠ 331 by decide), at_n hP, x1, x4, y1]
        exact decide_eq_true_iff
      obtain ⟨v, v1, v2⟩ := hl_22 (I := I) (J := J) (rj := rj) (rq := rq) (a0 := a0) (N := N) (R := va_up R 331 f) (g := fun j => (f j).toInt.toNat) (B := fun p => decide (A (740 + 12 * p) = A (740 + 12 * P) ∧ A (740 + 12 * p + 3) ≠ 300)) hI0 N40 (fun j hj => by
        obtain ⟨x1, x2⟩ := RWq_at _ j l2 (by rw [sl]; exact hj)
        have x3 := srt_m _ _ x2
        rw [va_up_self]
        exact ⟨by omega, by omega⟩) (fun j hj => by
        obtain ⟨x1, x2⟩ := RWq_at _ j l2 (by rw [sl]; exact hj)
        have x3 := srt_m _ _ x2
        exact hB1 _ (by omega)) ((40 - (0 : Int32).toInt).toNat + 1) 0 0 k0 (by rw [k0]; omega) (Nat.zero_le _) (fun j hj => absurd hj (Nat.not_lt_zero _))
      rw [← L] at v2
      -- the reference's
      obtain ⟨v', w1, w2⟩ := hm_58 (V := V) (si := si) (sj := sj) (sq := sq) (a0 := a0) (y1 := si 384 0) (N := N) (P := P) (r1 := va_up si 384 A) (I1 := va_up U 406 K) (o := o) (B := fun p => decide (A (740 + 12 * p) = A (740 + 12 * P) ∧ A (740 + 12 * p + 3) ≠ 300)) hP P40 hN N40 (fun p _ => by rw [va_up_self]; exact decide_eq_true_iff) (fun E hE x y p q hx hy hp hq => by
        rw [va_up_self]
        exact l4 E hE (va_up U 406 K) (va_up si 384 A) sj (si 384 0) x y p q (va_up_self _ _ _) (va_up_self _ _ _) hx hy hp hq) ((40 - (0 : Int32).toInt).toNat + 1) 0 0 (-1) k0 (by rw [k0]; omega) (Nat.zero_le _) (Or.inl ⟨rfl, rfl⟩)
      rw [va_up_self, srtF_v ltk_s] at w2
      have ev : v' = v := QF_u w2 v2
      rw [ev] at w1
      -- TITLES
      have hH1 : HLD I (va_up R 331 f) (va_up si 384 A 384) := fun c hc => by
        rw [va_up_ne _ _ (show (325 : Nat) ≠ 331 by decide), va_up_self, oR 325 (by decide), aA _ (fun p hp => by omega)]
        exact hH c hc
      obtain ⟨z, R', s', t1, t2, t3, t4, t5, t6⟩ := pt_sim (I := I) (J := J) (rj := rj) (rq := rq) (V := V) (si := si) (sj := sj) (sq := sq) (a0 := a0) (v := v) (N := C) (I1 := va_up U 406 K) (QF_b v2) hC (by rw [← e2]; exact hC) (by omega) ((40 - (0 : Int32).toInt).toNat + 1) 0 0 0 (va_up R 331 f) (va_up si 384 A) k0 (by rw [k0]; omega) (Nat.zero_le _) hH1
      have cc : g_X11_death tI tR a0 I J ri rj rq = (z, I, J, R', rj, rq) := by
        rw [g_X11_death_e, isPerson_c, bnI_mk, if_neg q1]
        simp only [↓ap1_n]
        rw [at_n hP, if_neg q2, eR, g_X10_heirOf_e]
        simp only [↓ap1_n]
        rw [e0, l1, bnV_mk, v1, bnI_mk, g_X10_passTitles_e, t1, bnI_mk]
      have cm : g_X12_death a0 U V si sj sq = (z, va_up U 406 K, V, s', sj, sq) := by
        rw [e3] at q2
        rw [g_X12_death_e, isPerson_m, bnI_mk, if_neg q3, bn_n (pa3 hP P40), if_neg q2]
        simp only [↓ap1_n]
        rw [ixp (c := a0) (k := 3) 3 (by decide) (by decide) b.1 a39, at_n hP, eA, l3, bnI_mk, w1, t2]
      unfold FH
      rw [cc, cm]
      refine ⟨rfl, FLK_cg hK1 rfl (fun t ht p _ => ?_) ?_ (fun p k hp hk => ?_), t3⟩
      · show R' t p = R t p
        rw [t4 t (fun q : t = 325 => by rw [q] at ht; exact absurd ht (by decide)), va_up_ne _ _ (fun q : t = 331 => by rw [q] at ht; exact absurd ht (by decide))]
      · show s' 384 5 = A 5
        rw [t6 5 (fun c hc => by omega), va_up_self]
      · show s' 384 (740 + 12 * p + k) = A (740 + 12 * p + k)
        rw [t6 _ (fun c hc => by omega), va_up_self]
end PK5
