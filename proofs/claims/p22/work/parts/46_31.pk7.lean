/-! ===== pure: BOATS, what both sides count (behind pk6) ===== -/
section PK7
variable {I : Nat → Int32} {J : Nat → Int64} {ri : Nat → Nat → Int32} {rj : Nat → Nat → Int64} {rq : Nat → Nat → Option Nat}
variable {U : Nat → Int32} {V : Nat → Int64} {si : Nat → Nat → Int32} {sj : Nat → Nat → Int64} {sq : Nat → Nat → Option Nat}
/-- how many below N -/
def cbN (f : Nat → Bool) : Nat → Nat
  | 0 => 0
  | k + 1 => cbN f k + (if f k = true then 1 else 0)
theorem cbN_le {f : Nat → Bool} : ∀ N, cbN f N ≤ N
  | 0 => Nat.le_refl _
  | k + 1 => by
    have := cbN_le (f := f) k
    show cbN f k + (if f k = true then 1 else 0) ≤ k + 1
    split <;> omega
theorem cbN_cg {f g : Nat → Bool} : ∀ N, (∀ r, r < N → f r = g r) → cbN f N = cbN g N
  | 0, _ => rfl
  | k + 1, h => by
    show cbN f k + (if f k = true then 1 else 0) = cbN g k + (if g k = true then 1 else 0)
    rw [cbN_cg k (fun r hr => h r (by omega)), h k (Nat.lt_succ_self _)]
theorem cbN_2 {f g h : Nat → Bool} : ∀ N, (∀ r, r < N → (h r = (f r || g r)) ∧ (f r && g r) = false) → cbN h N = cbN f N + cbN g N
  | 0, _ => rfl
  | k + 1, e => by
    show cbN h k + (if h k = true then 1 else 0) = cbN f k + (if f k = true then 1 else 0) + (cbN g k + (if g k = true then 1 else 0))
    rw [cbN_2 k (fun r hr => e r (by omega))]
    obtain ⟨e1, e2⟩ := e k (Nat.lt_succ_self _)
    rw [e1]
    cases hf : f k <;> cases hg : g k
    · simp
    · simp
      omega
    · simp
      omega
    · rw [hf, hg] at e2
      cases e2
theorem cbN_1 {f : Nat → Bool} {k : Nat} : ∀ {N : Nat}, k < N → f k = true → 1 ≤ cbN f N
  | 0, h, _ => absurd h (Nat.not_lt_zero _)
  | N + 1, h, hf => by
    show 1 ≤ cbN f N + (if f N = true then 1 else 0)
    by_cases e : k = N
    · rw [← e, if_pos hf]; omega
    · have := cbN_1 (N := N) (show k < N by omega) hf
      omega
theorem ofN_t {n : Nat} (h : n ≤ 100000) : (Int32.ofNat n).toInt = (n : Int) := Int32.toInt_ofNat_of_lt (by omega)
theorem ofN_u {x : Int32} {n : Nat} (h : x.toInt = (n : Int)) (hn : n ≤ 100000) : x = Int32.ofNat n := Int32.toInt_inj.mp (h.trans (ofN_t hn).symm)
/-- how many are at a PLACE, by the reference's row -/
def mny (A : Nat → Int32) (N : Nat) (v : Int32) : Nat := cbN (fun r => decide (A (740 + 12 * r + 3) = v)) N
/-- a LOT's number as a PLACE -/
def lotP (l : Nat) : Int32 := 100 + Int32.ofNat l
theorem lotP_t {l : Nat} (h : l ≤ 1000) : (lotP l).toInt = 100 + (l : Int) := i_add (show (100 : Int32).toInt = 100 by decide) (ofN_t (by omega)) (by omega) (by omega)
/-- a LOT's free BEDS -/
def frE (A : Nat → Int32) (N l : Nat) : Int32 := A (80 + l) - Int32.ofNat (mny A N (lotP l))
theorem ma_4 {a0 : Int32} {N : Nat} (hS : (si 384 5).toInt = (N : Int)) (hN : N ≤ 40) : ∀ (n k : Nat) (x cnt : Int32), x.toInt = (k : Int) → 40 - k < n → k ≤ N → cnt.toInt = (cbN (fun r => decide (si 384 (740 + 12 * r + 3) = a0)) k : Int) → g_X12_manyAt_L4 a0 U V si sj sq n cnt x = (Int32.ofNat (mny (si 384) N a0), U, V, si, sj, sq) := by
  intro n
  induction n with
  | zero => intro k _ _ _ h; exact absurd h (Nat.not_lt_zero _)
  | succ n ih =>
    intro k x cnt hx hn hk hc
    have le := cbN_le (f := fun r => decide (si 384 (740 + 12 * r + 3) = a0)) k
    rw [g_X12_manyAt_L4_e]
    simp only [↓ap1_n, g_X12_manyAt_K30, g_X12_manyAt_K30_2]
    by_cases c : si 384 5 ≤ x
    · have c1 := (le_n hS hx).mp c
      rw [if_pos c, ofN_u hc (by omega), show k = N by omega]
      rfl
    · have c1 : ¬ N ≤ k := fun y => c ((le_n hS hx).mpr y)
      have nx := up_i hx (by omega)
      have es : cbN (fun r => decide (si 384 (740 + 12 * r + 3) = a0)) (k + 1) = cbN (fun r => decide (si 384 (740 + 12 * r + 3) = a0)) k + (if decide (si 384 (740 + 12 * k + 3) = a0) = true then 1 else 0) := rfl
      rw [if_neg c, bn_n (pa3 hx (by omega))]
      by_cases d : si 384 (740 + 12 * k + 3) = a0
      · rw [if_pos d]
        rw [if_pos (decide_eq_true d)] at es
        exact ih (k + 1) _ _ nx (by omega) (by omega) (by rw [es]; exact upN hc (by omega))
      · rw [if_neg d, Int32.add_zero]
        rw [if_neg (by rw [decide_eq_false d]; exact Bool.false_ne_true), Nat.add_zero] at es
        exact ih (k + 1) _ _ nx (by omega) (by omega) (by rw [es]; exact hc)
theorem many_v {a0 : Int32} {N : Nat} (hS : (si 384 5).toInt = (N : Int)) (hN : N ≤ 40) : g_X12_manyAt a0 U V si sj sq = (Int32.ofNat (mny (si 384) N a0), U, V, si, sj, sq) := by
  have k0 : (0 : Int32).toInt = 0 := by decide
  rw [g_X12_manyAt_e]
  exact ma_4 hS hN _ 0 0 0 k0 (by rw [k0]; omega) (Nat.zero_le _) k0
theorem freeIn_v {a0 : Int32} {N l : Nat} (hS : (si 384 5).toInt = (N : Int)) (hN : N ≤ 40) (h : a0.toInt = (l : Int)) (hl : l < 5) : g_X12_freeIn a0 U V si sj sq = (frE (si 384) N l, U, V, si, sj, sq) := by
  have i80 : ((80 : Int32) + a0).toNatClampNeg = 80 + l := at_n ((i_add (show (80 : Int32).toInt = 80 by decide) h (by omega) (by omega)).trans (by omega))
  rw [g_X12_freeIn_e]
  simp only [↓ap1_n]
  rw [bn_n (many_v hS hN), i80, ofN_u h (by omega)]
  rfl
/-- the first LOT with so many free BEDS, of k from i on; i + k without -/
def fLot (F : Nat → Int32) (c : Int32) : Nat → Nat → Nat
  | i, 0 => i
  | i, k + 1 => if c ≤ F i then i else fLot F c (i + 1) k
theorem fLot_cg {F G : Nat → Int32} {c : Int32} : ∀ k i : Nat, (∀ l, i ≤ l → l < i + k → F l = G l) → fLot F c i k = fLot G c i k
  | 0, i, _ => rfl
  | k + 1, i, h => by
    show (if c ≤ F i then i else fLot F c (i + 1) k) = (if c ≤ G i then i else fLot G c (i + 1) k)
    rw [h i (Nat.le_refl _) (by omega), fLot_cg k (i + 1) (fun l h1 h2 => h l (by omega) (by omega))]
/-- the class takes a LOT -/
theorem tl_2 {a0 : Int32} {L : Nat} (hL : (I 10).toInt = (L : Int)) (hL5 : L ≤ 5) : ∀ (n i : Nat) (x : Int32), x.toInt = (i : Int) → 5 - i < n → i ≤ L → ∃ R : Nat → Nat → Int32, g_X0_takeLot_L2 a0 I J ri rj rq n x = ((if fLot (ri 13) a0 i (L - i) < L then Int32.ofNat (fLot (ri 13) a0 i (L - i)) else -1), I, J, R, rj, rq) ∧ (∀ t, t ≠ 13 → R t = ri t) ∧ (L ≤ fLot (ri 13) a0 i (L - i) → R = ri) ∧ (fLot (ri 13) a0 i (L - i) < L → R 13 = upd (ri 13) (fLot (ri 13) a0 i (L - i)) (ri 13 (fLot (ri 13) a0 i (L - i)) - a0)) := by
  intro n
  induction n with
  | zero => intro i _ _ h; exact absurd h (Nat.not_lt_zero _)
  | succ n ih =>
    intro i x hx hn hi
    rw [g_X0_takeLot_L2_e]
    simp only [↓ap1_n]
    by_cases c : I 10 ≤ x
    · have c1 := (le_n hL hx).mp c
      have e : L - i = 0 := by omega
      have e2 : fLot (ri 13) a0 i (L - i) = i := by rw [e]; rfl
      rw [if_pos c, e2, if_neg (show ¬ i < L by omega)]
      exact ⟨ri, rfl, fun _ _ => rfl, fun _ => rfl, fun h => absurd h (by omega)⟩
    · have c1 : ¬ L ≤ i := fun y => c ((le_n hL hx).mpr y)
      obtain ⟨k, hk⟩ : ∃ k, L - i = k + 1 := ⟨L - i - 1, by omega⟩
      have es : fLot (ri 13) a0 i (L - i) = (if a0 ≤ ri 13 i then i else fLot (ri 13) a0 (i + 1) k) := by rw [hk]; rfl
      rw [if_neg c, at_n hx, es]
      by_cases d : ri 13 i < a0
      · have nd : ¬ a0 ≤ ri 13 i := fun y => by
          have y1 := Int32.le_iff_toInt_le.mp y
          have y2 := Int32.lt_iff_toInt_lt.mp d
          omega
        rw [if_pos d, if_neg nd, show k = L - (i + 1) by omega]
        exact ih (i + 1) _ (up_i hx (by omega)) (by omega) (by omega)
      · have nd : a0 ≤ ri 13 i := Int32.not_lt.mp d
        rw [if_neg d, if_pos nd, if_pos (show i < L by omega)]
        refine ⟨_, by rw [ofN_u hx (by omega)], fun t ht => va_up_ne _ _ ht, fun h => absurd h (by omega), fun _ => va_up_self _ _ _⟩
theorem takeLot_v {a0 : Int32} {L : Nat} (hL : (I 10).toInt = (L : Int)) (hL5 : L ≤ 5) : ∃ R : Nat → Nat → Int32, g_X0_takeLot a0 I J ri rj rq = ((if fLot (ri 13) a0 0 L < L then Int32.ofNat (fLot (ri 13) a0 0 L) else -1), I, J, R, rj, rq) ∧ (∀ t, t ≠ 13 → R t = ri t) ∧ (L ≤ fLot (ri 13) a0 0 L → R = ri) ∧ (fLot (ri 13) a0 0 L < L → R 13 = upd (ri 13) (fLot (ri 13) a0 0 L) (ri 13 (fLot (ri 13) a0 0 L) - a0)) := by
  have k0 : (0 : Int32).toInt = 0 := by decide
  rw [g_X0_takeLot_e]
  exact tl_2 (ri := ri) hL hL5 ((5 - (0 : Int32).toInt).toNat + 1) 0 0 k0 (by rw [k0]; omega) (Nat.zero_le _)
/-! the reference's families -/
/-- who goes with P -/
def fmM (s : Nat → Nat → Int32) (P q : Nat) : Bool := decide (s 412 q = 0 ∧ s 384 (740 + 12 * q) = s 384 (740 + 12 * P) ∧ s 384 (740 + 12 * q + 3) = s 384 (740 + 12 * P + 3))
theorem isOfKin_v {x a0 a2 : Int32} {q P : Nat} (hx : x.toInt = (q : Int)) (hq : q < 40) (ha : a0.toInt = (P : Int)) (hP : P < 40) : g_X12_isOfKin x a0 a2 U V si sj sq = ((if q = P ∨ (si 412 q = 0 ∧ si 384 (740 + 12 * q) = si 384 (740 + 12 * P) ∧ si 384 (740 + 12 * q + 3) = a2) then 1 else 0), U, V, si, sj, sq) := by
  rw [g_X12_isOfKin_e]
  by_cases e : x = a0
  · have e2 : q = P := by
      rw [e, ha] at hx
      omega
    rw [if_pos e, if_pos (Or.inl e2), g_X12_isOfKin_K39_e]
  · have e2 : ¬ q = P := fun y => e (Int32.toInt_inj.mp (by rw [hx, ha, y]))
    rw [if_neg e]
    simp only [↓ap1_n]
    rw [at_n hx]
    by_cases z : si 412 q = 0
    · rw [if_pos z, bn_n (pa0 hx hq), bn_n (pa0 ha hP)]
      by_cases k : si 384 (740 + 12 * q) = si 384 (740 + 12 * P)
      · rw [if_pos k, bn_n (pa3 hx hq)]
        by_cases p : si 384 (740 + 12 * q + 3) = a2
        · rw [if_pos p, if_pos (Or.inr ⟨z, k, p⟩), g_X12_isOfKin_K39_e]
        · rw [if_neg p, if_neg (fun y => by
            rcases y with y | y
            · exact e2 y
            · exact p y.2.2), g_X12_isOfKin_K43_e]
      · rw [if_neg k, if_neg (fun y => by
          rcases y with y | y
          · exact e2 y
          · exact k y.2.1), g_X12_isOfKin_K43_e]
    · rw [if_neg z, if_neg (fun y => by
        rcases y with y | y
        · exact e2 y
        · exact z y.1), g_X12_isOfKin_K43_e]
theorem sails_v {x a1 a2 : Int32} {q : Nat} (hx : x.toInt = (q : Int)) (hq : q < 40) : g_X12_sails x a1 a2 U V si sj sq = (U, V, va_up si 384 (upd (upd (si 384) (740 + 12 * q + 3) (100 + a1)) (740 + 12 * q + 7) a2), sj, sq) := by
  rw [g_X12_sails_e]
  simp only [↓ap1_n, va_up_self, up_up]
  rw [ixp (c := x) (k := 3) 3 (by decide) (by decide) (by omega) (by omega), ixp (c := x) (k := 7) 7 (by decide) (by decide) (by omega) (by omega), at_n hx]
/-- what is left of a state when P's family has gone (v: to which PLACE, or nowhere) -/
def FMW (s s' : Nat → Nat → Int32) (N P : Nat) (v : Option Int32) : Prop := (∀ t, t ≠ 384 → t ≠ 412 → s' t = s t) ∧ (∀ q, q < N → s' 412 q = (if fmM s P q = true then 1 else s 412 q)) ∧ (∀ q, q < 40 → s' 384 (740 + 12 * q + 3) = (match v with | none => s 384 (740 + 12 * q + 3) | some z => if q < N ∧ fmM s P q = true then z else s 384 (740 + 12 * q + 3))) ∧ ∀ i, (∀ q k, q < 40 → k ∈ [3, 7] → i ≠ 740 + 12 * q + k) → s' 384 i = s 384 i
theorem fm_14 {a0 a1 a2 x2 : Int32} {N P : Nat} (hS : (si 384 5).toInt = (N : Int)) (hN : N ≤ 40) (ha : a0.toInt = (P : Int)) (hP : P < N) (h2 : x2 = si 384 (740 + 12 * P + 3)) (hM : fmM si P P = true) : ∀ (n k : Nat) (x cnt : Int32), x.toInt = (k : Int) → 40 - k < n → k ≤ N → cnt.toInt = (cbN (fmM si P) k : Int) → g_X12_family_L14 a0 a1 a2 U V si sj sq x2 n cnt x = g_X12_family_L56 a0 a1 a2 U V si sj sq x2 (Int32.ofNat (cbN (fmM si P) N)) (si 384 5) ((5 - ((0 : Int32)).toInt).toNat + 1) (0 : Int32) := by
  intro n
  induction n with
  | zero => intro k _ _ _ h; exact absurd h (Nat.not_lt_zero _)
  | succ n ih =>
    intro k x cnt hx hn hk hc
    have le := cbN_le (f := fmM si P) k
    rw [g_X12_family_L14_e]
    simp only [↓ap1_n, g_X12_family_K44, g_X12_family_K44_2]
    by_cases c : si 384 5 ≤ x
    · have c1 := (le_n hS hx).mp c
      rw [if_pos c, ofN_u hc (by omega), show k = N by omega]
    · have c1 : ¬ N ≤ k := fun y => c ((le_n hS hx).mpr y)
      have nx := up_i hx (by omega)
      have es : cbN (fmM si P) (k + 1) = cbN (fmM si P) k + (if fmM si P k = true then 1 else 0) := rfl
      have eq1 : (k = P ∨ (si 412 k = 0 ∧ si 384 (740 + 12 * k) = si 384 (740 + 12 * P) ∧ si 384 (740 + 12 * k + 3) = x2)) ↔ fmM si P k = true := by
        rw [h2]
        constructor
        · intro y
          rcases y with y | y
          · rw [y]; exact hM
          · exact decide_eq_true y
        · intro y
          exact Or.inr (of_decide_eq_true y)
      rw [if_neg c, bn_n (isOfKin_v hx (by omega) ha (by omega))]
      by_cases m : fmM si P k = true
      · rw [if_pos (eq1.mpr m), if_neg (show ¬ (1 : Int32) = 0 by decide)]
        rw [if_pos m] at es
        exact ih (k + 1) _ _ nx (by omega) (by omega) (by rw [es]; exact upN hc (by omega))
      · rw [if_neg (fun y => m (eq1.mp y)), if_pos (show (0 : Int32) = 0 from rfl), Int32.add_zero]
        rw [if_neg m, Nat.add_zero] at es
        exact ih (k + 1) _ _ nx (by omega) (by omega) (by rw [es]; exact hc)
theorem fm_56 {a0 a1 a2 x2 c y1 : Int32} {N L : Nat} (hS : (si 384 5).toInt = (N : Int)) (hN : N ≤ 40) (hL : (si 384 4).toInt = (L : Int)) (hL5 : L ≤ 5) : ∀ (n i : Nat) (x : Int32), x.toInt = (i : Int) → 5 - i < n → i ≤ L → g_X12_family_L56 a0 a1 a2 U V si sj sq x2 c y1 n x = (if a2 < c ∨ L ≤ fLot (frE (si 384) N) c i (L - i) then g_X12_family_K105 a0 U V si sj sq x2 y1 else g_X12_family_K106 a0 a1 U V si sj sq x2 c y1 (Int32.ofNat (fLot (frE (si 384) N) c i (L - i)))) := by
  intro n
  induction n with
  | zero => intro i _ _ h; exact absurd h (Nat.not_lt_zero _)
  | succ n ih =>
    intro i x hx hn hi
    -- behind the search
    have fin : ∀ j : Nat, x.toInt = (j : Int) → j ≤ L → g_X12_family_K84 a0 a1 a2 U V si sj sq x2 c y1 x (si 384 4) = (if a2 < c ∨ L ≤ j then g_X12_family_K105 a0 U V si sj sq x2 y1 else g_X12_family_K106 a0 a1 U V si sj sq x2 c y1 (Int32.ofNat j)) := fun j hj hjL => by
      rw [g_X12_family_K84_e]
      by_cases q : a2 < c
      · rw [if_pos q, if_pos (Or.inl q)]
      · rw [if_neg q]
        by_cases w : si 384 4 ≤ x
        · rw [if_pos w, if_pos (Or.inr ((le_n hL hj).mp w))]
        · rw [if_neg w, if_neg (fun y => by
            rcases y with y | y
            · exact q y
            · exact w ((le_n hL hj).mpr y)), ofN_u hj (by omega)]
    rw [g_X12_family_L56_e]
    simp only [↓ap1_n]
    by_cases w : si 384 4 ≤ x
    · have w1 := (le_n hL hx).mp w
      have e : L - i = 0 := by omega
      have e2 : fLot (frE (si 384) N) c i (L - i) = i := by rw [e]; rfl
      rw [if_pos w, fin i hx hi, e2]
    · have w1 : ¬ L ≤ i := fun y => w ((le_n hL hx).mpr y)
      obtain ⟨k, hk⟩ : ∃ k, L - i = k + 1 := ⟨L - i - 1, by omega⟩
      have es : fLot (frE (si 384) N) c i (L - i) = (if c ≤ frE (si 384) N i then i else fLot (frE (si 384) N) c (i + 1) k) := by rw [hk]; rfl
      rw [if_neg w, bn_n (freeIn_v hS hN hx (by omega)), es]
      by_cases d : c ≤ frE (si 384) N i
      · rw [if_pos d, if_pos d]
        exact fin i hx hi
      · rw [if_neg d, if_neg d, show k = L - (i + 1) by omega]
        exact ih (i + 1) _ (up_i hx (by omega)) (by omega) (by omega)
/-- who doesn't go is marked -/
theorem fm_112 {a0 x2 : Int32} {N P : Nat} {s0 : Nat → Nat → Int32} (hS : (s0 384 5).toInt = (N : Int)) (hN : N ≤ 40) (ha : a0.toInt = (P : Int)) (hP : P < N) (h2 : x2 = s0 384 (740 + 12 * P + 3)) (hM : fmM s0 P P = true) : ∀ (n k : Nat) (x : Int32) (f : Nat → Int32), x.toInt = (k : Int) → 40 - k < n → k ≤ N → (∀ q, f q = (if q < k ∧ fmM s0 P q = true then 1 else s0 412 q)) → ∃ f' : Nat → Int32, g_X12_family_L111_2 a0 U V sj sq x2 (s0 384 5) n x (va_up s0 412 f) = (0, U, V, va_up s0 412 f', sj, sq) ∧ ∀ q, f' q = (if q < N ∧ fmM s0 P q = true then 1 else s0 412 q) := by
  intro n
  induction n with
  | zero => intro k _ _ _ h; exact absurd h (Nat.not_lt_zero _)
  | succ n ih =>
    intro k x f hx hn hk hf
    rw [g_X12_family_L111_2_e]
    simp only [↓ap1_n, g_X12_family_K168_2, g_X12_family_K187_2]
    by_cases c : s0 384 5 ≤ x
    · have c1 := (le_n hS hx).mp c
      rw [if_pos c]
      exact ⟨f, rfl, by rw [show N = k by omega]; exact hf⟩
    · have c1 : ¬ N ≤ k := fun y => c ((le_n hS hx).mpr y)
      have nx := up_i hx (by omega)
      have r384 : va_up s0 412 f 384 = s0 384 := va_up_ne _ _ (by decide)
      have fk : f k = s0 412 k := by rw [hf k, if_neg (fun y => by omega)]
      have eq1 : (k = P ∨ (va_up s0 412 f 412 k = 0 ∧ va_up s0 412 f 384 (740 + 12 * k) = va_up s0 412 f 384 (740 + 12 * P) ∧ va_up s0 412 f 384 (740 + 12 * k + 3) = x2)) ↔ fmM s0 P k = true := by
        rw [r384, va_up_self, fk, h2]
        constructor
        · intro y
          rcases y with y | y
          · rw [y]; exact hM
          · exact decide_eq_true y
        · intro y
          exact Or.inr (of_decide_eq_true y)
      rw [if_neg c, bn_n (isOfKin_v (si := va_up s0 412 f) hx (by omega) ha (by omega))]
      by_cases m : fmM s0 P k = true
      · rw [if_pos (eq1.mpr m), if_neg (show ¬ (1 : Int32) = 0 by decide), va_up_self, up_up, at_n hx, ite_self]
        refine ih (k + 1) _ _ nx (by omega) (by omega) (fun q => ?_)
        by_cases e : q = k
        · rw [e, upd_s, if_pos ⟨Nat.lt_succ_self _, m⟩]
        · rw [upd_n _ _ e, hf q]
          by_cases l : q < k ∧ fmM s0 P q = true
          · rw [if_pos l, if_pos ⟨by omega, l.2⟩]
          · rw [if_neg l, if_neg (fun y => l ⟨by omega, y.2⟩)]
      · rw [if_neg (fun y => m (eq1.mp y)), if_pos (show (0 : Int32) = 0 from rfl)]
        refine ih (k + 1) _ f nx (by omega) (by omega) (fun q => ?_)
        rw [hf q]
        by_cases l : q < k ∧ fmM s0 P q = true
        · rw [if_pos l, if_pos ⟨by omega, l.2⟩]
        · rw [if_neg l, if_neg (fun y => by
            by_cases e : q = k
            · rw [e] at y; exact m y.2
            · exact l ⟨by omega, y.2⟩)]
/-- who goes -/
theorem fm_111 {a0 a1 x2 c z : Int32} {N P : Nat} {s0 : Nat → Nat → Int32} (hS : (s0 384 5).toInt = (N : Int)) (hN : N ≤ 40) (ha : a0.toInt = (P : Int)) (hP : P < N) (h2 : x2 = s0 384 (740 + 12 * P + 3)) (hM : fmM s0 P P = true) : ∀ (n k : Nat) (x : Int32) (f A : Nat → Int32), x.toInt = (k : Int) → 40 - k < n → k ≤ N → (∀ q, f q = (if q < k ∧ fmM s0 P q = true then 1 else s0 412 q)) → (∀ q, q < 40 → A (740 + 12 * q + 3) = (if q < k ∧ fmM s0 P q = true ∧ q ≠ P then 100 + z else s0 384 (740 + 12 * q + 3))) → (∀ i, (∀ q k, q < 40 → k ∈ [3, 7] → i ≠ 740 + 12 * q + k) → A i = s0 384 i) → ∃ f' A' : Nat → Int32, g_X12_family_L111 a0 a1 U V sj sq x2 c (s0 384 5) z n x (va_up (va_up s0 412 f) 384 A) = (c, U, V, va_up (va_up s0 412 f') 384 A', sj, sq) ∧ (∀ q, f' q = (if q < N ∧ fmM s0 P q = true then 1 else s0 412 q)) ∧ (∀ q, q < 40 → A' (740 + 12 * q + 3) = (if q < N ∧ fmM s0 P q = true then 100 + z else s0 384 (740 + 12 * q + 3))) ∧ ∀ i, (∀ q k, q < 40 → k ∈ [3, 7] → i ≠ 740 + 12 * q + k) → A' i = s0 384 i := by
  have n37 : ∀ q p k, p < 40 → k ∈ [3, 7] → 740 + 12 * q ≠ 740 + 12 * p + k := fun q p k hp hk => by
    simp only [List.mem_cons, List.not_mem_nil, or_false] at hk
    omega
  intro n
  induction n with
  | zero => intro k _ _ _ _ h; exact absurd h (Nat.not_lt_zero _)
  | succ n ih =>
    intro k x f A hx hn hk hf hA hO
    have x412 : ∀ (f A : Nat → Int32), va_up (va_up s0 412 f) 384 A 412 = f := fun f A => by rw [va_up_ne _ _ (show (412 : Nat) ≠ 384 by decide), va_up_self]
    have sw : ∀ (f A g : Nat → Int32), va_up (va_up (va_up s0 412 f) 384 A) 412 g = va_up (va_up s0 412 g) 384 A := fun f A g => by
      funext t
      by_cases h4 : t = 412
      · rw [h4, va_up_self, va_up_ne _ _ (show (412 : Nat) ≠ 384 by decide), va_up_self]
      · by_cases h3 : t = 384
        · rw [h3, va_up_ne _ _ (show (384 : Nat) ≠ 412 by decide), va_up_self, va_up_self]
        · rw [va_up_ne _ _ h4, va_up_ne _ _ h3, va_up_ne _ _ h4, va_up_ne _ _ h3, va_up_ne _ _ h4]
    rw [g_X12_family_L111_e]
    simp only [↓ap1_n, g_X12_family_K168, g_X12_family_K187]
    by_cases c0 : s0 384 5 ≤ x
    · have c1 := (le_n hS hx).mp c0
      have ek : N = k := by omega
      rw [if_pos c0, sails_v ha (by omega), bnV_mk, va_up_self, up_up]
      refine ⟨f, _, rfl, by rw [ek]; exact hf, fun q hq => ?_, fun i hi => ?_⟩
      · by_cases e : q = P
        · rw [e, upd_n _ _ (by omega), upd_s, if_pos ⟨hP, hM⟩]
        · rw [upd_n _ _ (by omega), upd_n _ _ (by omega), hA q hq]
          by_cases l : q < N ∧ fmM s0 P q = true
          · rw [if_pos l, if_pos ⟨by omega, l.2, e⟩]
          · rw [if_neg l, if_neg (fun y => l ⟨by omega, y.2.1⟩)]
      · rw [upd_n _ _ (hi P 7 (by omega) (by decide)), upd_n _ _ (hi P 3 (by omega) (by decide))]
        exact hO i hi
    · have c1 : ¬ N ≤ k := fun y => c0 ((le_n hS hx).mpr y)
      have nx := up_i hx (by omega)
      have fk : f k = s0 412 k := by rw [hf k, if_neg (fun y => by omega)]
      have Ak : A (740 + 12 * k + 3) = s0 384 (740 + 12 * k + 3) := by rw [hA k (by omega), if_neg (fun y => by omega)]
      have eq1 : (k = P ∨ (va_up (va_up s0 412 f) 384 A 412 k = 0 ∧ va_up (va_up s0 412 f) 384 A 384 (740 + 12 * k) = va_up (va_up s0 412 f) 384 A 384 (740 + 12 * P) ∧ va_up (va_up s0 412 f) 384 A 384 (740 + 12 * k + 3) = x2)) ↔ fmM s0 P k = true := by
        rw [x412, va_up_self, fk, Ak, hO _ (n37 k), hO _ (n37 P), h2]
        constructor
        · intro y
          rcases y with y | y
          · rw [y]; exact hM
          · exact decide_eq_true y
        · intro y
          exact Or.inr (of_decide_eq_true y)
      have hf1 : fmM s0 P k = true → ∀ q, upd f k 1 q = (if q < k + 1 ∧ fmM s0 P q = true then 1 else s0 412 q) := fun m q => by
        by_cases e : q = k
        · rw [e, upd_s, if_pos ⟨Nat.lt_succ_self _, m⟩]
        · rw [upd_n _ _ e, hf q]
          by_cases l : q < k ∧ fmM s0 P q = true
          · rw [if_pos l, if_pos ⟨by omega, l.2⟩]
          · rw [if_neg l, if_neg (fun y => l ⟨by omega, y.2⟩)]
      rw [if_neg c0, bn_n (isOfKin_v (si := va_up (va_up s0 412 f) 384 A) hx (by omega) ha (by omega))]
      by_cases m : fmM s0 P k = true
      · rw [if_pos (eq1.mpr m), if_neg (show ¬ (1 : Int32) = 0 by decide), x412, sw, at_n hx]
        by_cases e : x = a0
        · have ek : k = P := by
            rw [e, ha] at hx
            omega
          rw [if_pos e]
          refine ih (k + 1) _ _ A nx (by omega) (by omega) (hf1 m) (fun q hq => ?_) hO
          rw [hA q hq]
          by_cases l : q < k ∧ fmM s0 P q = true ∧ q ≠ P
          · rw [if_pos l, if_pos ⟨by omega, l.2⟩]
          · rw [if_neg l, if_neg (fun y => l ⟨by have := y.2.2; omega, y.2⟩)]
        · have ek : k ≠ P := fun y => e (Int32.toInt_inj.mp (by rw [hx, ha, y]))
          rw [if_neg e, sails_v hx (by omega), bnV_mk, va_up_self, up_up]
          refine ih (k + 1) _ _ _ nx (by omega) (by omega) (hf1 m) (fun q hq => ?_) (fun i hi => ?_)
          · by_cases l : q = k
            · rw [l, upd_n _ _ (by omega), upd_s, if_pos ⟨Nat.lt_succ_self _, m, ek⟩]
            · rw [upd_n _ _ (by omega), upd_n _ _ (by omega), hA q hq]
              by_cases l2 : q < k ∧ fmM s0 P q = true ∧ q ≠ P
              · rw [if_pos l2, if_pos ⟨by omega, l2.2⟩]
              · rw [if_neg l2, if_neg (fun y => l2 ⟨by omega, y.2⟩)]
          · rw [upd_n _ _ (hi k 7 (by omega) (by decide)), upd_n _ _ (hi k 3 (by omega) (by decide))]
            exact hO i hi
      · rw [if_neg (fun y => m (eq1.mp y)), if_pos (show (0 : Int32) = 0 from rfl)]
        refine ih (k + 1) _ f A nx (by omega) (by omega) (fun q => ?_) (fun q hq => ?_) hO
        · rw [hf q]
          by_cases l : q < k ∧ fmM s0 P q = true
          · rw [if_pos l, if_pos ⟨by omega, l.2⟩]
          · rw [if_neg l, if_neg (fun y => by
              by_cases e : q = k
              · rw [e] at y; exact m y.2
              · exact l ⟨by omega, y.2⟩)]
        · rw [hA q hq]
          by_cases l : q < k ∧ fmM s0 P q = true ∧ q ≠ P
          · rw [if_pos l, if_pos ⟨by omega, l.2⟩]
          · rw [if_neg l, if_neg (fun y => by
              by_cases e : q = k
              · rw [e] at y; exact m y.2.1
              · exact l ⟨by omega, y.2⟩)]
/-- a family of the reference -/
theorem family_v {a0 a1 a2 : Int32} {N P L : Nat} (hS : (si 384 5).toInt = (N : Int)) (hN : N ≤ 40) (hL : (si 384 4).toInt = (L : Int)) (hL5 : L ≤ 5) (ha : a0.toInt = (P : Int)) (hP : P < N) (hM : fmM si P P = true) : ∃ s' : Nat → Nat → Int32, g_X12_family a0 a1 a2 U V si sj sq = ((if a2 < Int32.ofNat (cbN (fmM si P) N) ∨ L ≤ fLot (frE (si 384) N) (Int32.ofNat (cbN (fmM si P) N)) 0 L then 0 else Int32.ofNat (cbN (fmM si P) N)), U, V, s', sj, sq) ∧ FMW si s' N P (if a2 < Int32.ofNat (cbN (fmM si P) N) ∨ L ≤ fLot (frE (si 384) N) (Int32.ofNat (cbN (fmM si P) N)) 0 L then none else some (lotP (fLot (frE (si 384) N) (Int32.ofNat (cbN (fmM si P) N)) 0 L))) := by
  have k0 : (0 : Int32).toInt = 0 := by decide
  have n37 : ∀ q p k, p < 40 → k ∈ [3, 7] → 740 + 12 * q ≠ 740 + 12 * p + k := fun q p k hp hk => by
    simp only [List.mem_cons, List.not_mem_nil, or_false] at hk
    omega
  rw [g_X12_family_e, bn_n (pa3 ha (by omega)), fm_14 (a1 := a1) (a2 := a2) hS hN ha hP rfl hM ((40 - (0 : Int32).toInt).toNat + 1) 0 0 0 k0 (by rw [k0]; omega) (Nat.zero_le _) k0, fm_56 hS hN hL hL5 ((5 - (0 : Int32).toInt).toNat + 1) 0 0 k0 (by rw [k0]; omega) (Nat.zero_le _), Nat.sub_zero]
  generalize Int32.ofNat (cbN (fmM si P) N) = c
  generalize fLot (frE (si 384) N) c 0 L = j
  by_cases q : a2 < c ∨ L ≤ j
  · rw [if_pos q, if_pos q, if_pos q, g_X12_family_K105_e, g_X12_family_K106_2_e]
    obtain ⟨f', g1, g2⟩ := fm_112 (U := U) (V := V) (sj := sj) (sq := sq) (s0 := si) hS hN ha hP rfl hM ((40 - (0 : Int32).toInt).toNat + 1) 0 0 (si 412) k0 (by rw [k0]; omega) (Nat.zero_le _) (fun q => by rw [if_neg (fun y => absurd y.1 (Nat.not_lt_zero _))])
    rw [up_id] at g1
    refine ⟨_, g1, fun t h3 h4 => va_up_ne _ _ h4, fun q hq => ?_, fun q hq => ?_, fun i _ => ?_⟩
    · rw [va_up_self, g2 q]
      by_cases l : fmM si P q = true
      · rw [if_pos ⟨hq, l⟩, if_pos l]
      · rw [if_neg (fun y => l y.2), if_neg l]
    · show va_up si 412 f' 384 (740 + 12 * q + 3) = si 384 (740 + 12 * q + 3)
      rw [va_up_ne _ _ (show (384 : Nat) ≠ 412 by decide)]
    · rw [va_up_ne _ _ (show (384 : Nat) ≠ 412 by decide)]
  · rw [if_neg q, if_neg q, if_neg q, g_X12_family_K106_e]
    obtain ⟨f', A', g1, g2, g3, g4⟩ := fm_111 (U := U) (V := V) (sj := sj) (sq := sq) (a1 := a1) (c := c) (z := Int32.ofNat j) (s0 := si) hS hN ha hP rfl hM ((40 - (0 : Int32).toInt).toNat + 1) 0 0 (si 412) (si 384) k0 (by rw [k0]; omega) (Nat.zero_le _) (fun q => by rw [if_neg (fun y => absurd y.1 (Nat.not_lt_zero _))]) (fun q hq => by rw [if_neg (fun y => absurd y.1 (Nat.not_lt_zero _))]) (fun _ _ => rfl)
    rw [up_id, up_id] at g1
    refine ⟨_, g1, fun t h3 h4 => by rw [va_up_ne _ _ h3, va_up_ne _ _ h4], fun q hq => ?_, fun q hq => ?_, fun i hi => ?_⟩
    · rw [va_up_ne _ _ (show (412 : Nat) ≠ 384 by decide), va_up_self, g2 q]
      by_cases l : fmM si P q = true
      · rw [if_pos ⟨hq, l⟩, if_pos l]
      · rw [if_neg (fun y => l y.2), if_neg l]
    · show va_up (va_up si 412 f') 384 A' 384 (740 + 12 * q + 3) = (if q < N ∧ fmM si P q = true then lotP j else si 384 (740 + 12 * q + 3))
      rw [va_up_self, g3 q hq]
      rfl
    · rw [va_up_self]
      exact g4 i hi
end PK7
