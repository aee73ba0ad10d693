/-! ===== pure: numbers, rows by loops ===== -/
section PU1
/-- not by rfl, so that the kernel never holds a chain of ap1 against what it comes to -/
theorem ap1_n {α β : Type} (v : α) (k : α → β) : ap1 v k = k v := of_eq_true (eq_self (k v))
theorem bnI_u {α β : Type} (p : α × vM) (k : α → (Nat → Int32) → (Nat → Int64) → (Nat → Nat → Int32) → (Nat → Nat → Int64) → (Nat → Nat → Option Nat) → β) : bnI p k = k p.1 p.2.1 p.2.2.1 p.2.2.2.1 p.2.2.2.2.1 p.2.2.2.2.2 := of_eq_true (eq_self (k p.1 p.2.1 p.2.2.1 p.2.2.2.1 p.2.2.2.2.1 p.2.2.2.2.2))
theorem bnV_u {β : Type} (p : vM) (k : (Nat → Int32) → (Nat → Int64) → (Nat → Nat → Int32) → (Nat → Nat → Int64) → (Nat → Nat → Option Nat) → β) : bnV p k = k p.1 p.2.1 p.2.2.1 p.2.2.2.1 p.2.2.2.2 := of_eq_true (eq_self (k p.1 p.2.1 p.2.2.1 p.2.2.2.1 p.2.2.2.2))
theorem t1_inc {x : Int32} (h0 : -2147483648 ≤ x.toInt) (h1 : x.toInt < 2147483647) : (x + Int32.ofInt 1).toInt = x.toInt + 1 := i_add rfl (show (Int32.ofInt 1).toInt = 1 by decide) (by omega) (by omega)
theorem t1_one {x : Int32} (h0 : -2147483648 ≤ x.toInt) (h1 : x.toInt < 2147483647) : (x + 1).toInt = x.toInt + 1 := i_add rfl (show (1 : Int32).toInt = 1 by decide) (by omega) (by omega)
theorem ixc {c : Int32} (h0 : 0 ≤ c.toInt) (h1 : c.toInt ≤ 39) : ((100 : Int32) + (16 : Int32) * c).toInt = 100 + 16 * c.toInt := i_add (show (100 : Int32).toInt = 100 by decide) (i_mul (show (16 : Int32).toInt = 16 by decide) rfl (by omega) (by omega)) (by omega) (by omega)
theorem ixk {c k : Int32} (m : Nat) (hk : k.toInt = (m : Int)) (hm : m ≤ 15) (h0 : 0 ≤ c.toInt) (h1 : c.toInt ≤ 39) : ((100 : Int32) + (16 : Int32) * c + k).toNatClampNeg = 100 + 16 * c.toNatClampNeg + m := by
  have e := i_add (ixc h0 h1) hk (by omega) (by omega)
  have z := clampE ((100 : Int32) + (16 : Int32) * c + k)
  have z1 := clampE c
  omega
theorem ixt {x k : Int32} (m : Nat) (hk : k.toInt = (m : Int)) (hm : m ≤ 4) (h0 : 0 ≤ x.toInt) (h1 : x.toInt ≤ 11) : ((20 : Int32) + (5 : Int32) * x + k).toNatClampNeg = 20 + 5 * x.toNatClampNeg + m := by
  have e := i_add (i_add (show (20 : Int32).toInt = 20 by decide) (i_mul (y := x) (show (5 : Int32).toInt = 5 by decide) rfl (by omega) (by omega)) (by omega) (by omega)) hk (by omega) (by omega)
  have z := clampE ((20 : Int32) + (5 : Int32) * x + k)
  have z1 := clampE x
  omega
theorem ixp {c k : Int32} (m : Nat) (hk : k.toInt = (m : Int)) (hm : m ≤ 11) (h0 : 0 ≤ c.toInt) (h1 : c.toInt ≤ 39) : ((740 : Int32) + (12 : Int32) * c + k).toNatClampNeg = 740 + 12 * c.toNatClampNeg + m := by
  have e := i_add (i_add (show (740 : Int32).toInt = 740 by decide) (i_mul (y := c) (show (12 : Int32).toInt = 12 by decide) rfl (by omega) (by omega)) (by omega) (by omega)) hk (by omega) (by omega)
  have z := clampE ((740 : Int32) + (12 : Int32) * c + k)
  have z1 := clampE c
  omega
theorem upd_s (f : Nat → Int32) (k : Nat) (v : Int32) : upd f k v k = v := if_pos rfl
theorem upd_n (f : Nat → Int32) {k j : Nat} (v : Int32) (h : j ≠ k) : upd f k v j = f j := if_neg h
theorem upd_upd (f : Nat → Int32) (k : Nat) (a b : Int32) : upd (upd f k a) k b = upd f k b := by
  funext j
  by_cases h : j = k
  · subst h; rw [upd_s, upd_s]
  · rw [upd_n _ _ h, upd_n _ _ h, upd_n _ _ h]
theorem up_id {α : Type} (r : Nat → α) (t : Nat) : va_up r t (r t) = r := by
  funext q
  by_cases h : q = t
  · subst h; exact va_up_self _ _ _
  · exact va_up_ne _ _ h
theorem up_up {α : Type} (r : Nat → α) (t : Nat) (a b : α) : va_up (va_up r t a) t b = va_up r t b := by
  funext q
  by_cases h : q = t
  · subst h; rw [va_up_self, va_up_self]
  · rw [va_up_ne _ _ h, va_up_ne _ _ h, va_up_ne _ _ h]
/-- the places from x to N of a row, each by itself -/
def mapR (t : Nat) (φ : Nat → Int32 → Int32) (x N : Nat) (r : Nat → Nat → Int32) : Nat → Nat → Int32 := va_up r t (fun j => if x ≤ j ∧ j < N then φ j (r t j) else r t j)
theorem mapR_0 {t : Nat} {φ : Nat → Int32 → Int32} {x N : Nat} {r : Nat → Nat → Int32} (h : N ≤ x) : mapR t φ x N r = r := by
  unfold mapR
  rw [show (fun j => if x ≤ j ∧ j < N then φ j (r t j) else r t j) = r t from funext fun j => if_neg (by omega)]
  exact up_id r t
theorem mapR_s {t : Nat} {φ : Nat → Int32 → Int32} {x N : Nat} {r : Nat → Nat → Int32} (h : x < N) : mapR t φ (x + 1) N (va_up r t (upd (r t) x (φ x (r t x)))) = mapR t φ x N r := by
  unfold mapR
  rw [up_up, va_up_self]
  congr 1
  funext j
  by_cases e : j = x
  · subst e
    rw [if_neg (by omega), if_pos (by omega), upd_s]
  · by_cases h1 : x + 1 ≤ j ∧ j < N
    · rw [if_pos h1, if_pos (by omega), upd_n _ _ e]
    · rw [if_neg h1, if_neg (by omega), upd_n _ _ e]
theorem mapR_t {t : Nat} {φ : Nat → Int32 → Int32} {x N : Nat} {r : Nat → Nat → Int32} : mapR t φ x N r t = fun j => if x ≤ j ∧ j < N then φ j (r t j) else r t j := va_up_self _ _ _
theorem mapR_o {t s : Nat} {φ : Nat → Int32 → Int32} {x N : Nat} {r : Nat → Nat → Int32} (h : s ≠ t) : mapR t φ x N r s = r s := va_up_ne _ _ h
variable {I : Nat → Int32} {J : Nat → Int64} {ri : Nat → Nat → Int32} {rj : Nat → Nat → Int64} {rq : Nat → Nat → Option Nat}
/-! REEF, of the class -/
def rfS (m x : Int32) : Int32 := if 0 < (if x + m < 400 then x + m else 400) then (if x + m < 400 then x + m else 400) else 0
theorem growReef_v {a0 : Int32} (h0 : 0 ≤ (I 65).toInt) (h40 : (I 65).toInt ≤ 40) : g_X2_growReef a0 I J ri rj rq = (I, J, mapR 74 (fun _ => rfS a0) 0 (I 65).toNatClampNeg ri, rj, rq) := by
  have go : ∀ (n : Nat) (x : Int32) (r : Nat → Nat → Int32), 0 ≤ x.toInt → x.toInt ≤ (I 65).toInt → (40 - x.toInt).toNat < n → g_X2_growReef_L2 a0 I J rj rq n x r = (I, J, mapR 74 (fun _ => rfS a0) x.toNatClampNeg (I 65).toNatClampNeg r, rj, rq) := by
    intro n
    induction n with
    | zero => intro x r _ _ h; exact absurd h (Nat.not_lt_zero _)
    | succ n ih =>
      intro x r h1 h2 h3
      have z1 := clampE x
      have z2 := clampE (I 65)
      rw [g_X2_growReef_L2_e]
      simp only [ap1]
      by_cases c : I 65 ≤ x
      · have c1 := Int32.le_iff_toInt_le.mp c
        rw [if_pos c, mapR_0 (by omega)]
      · have c1 := Int32.lt_iff_toInt_lt.mp (Int32.not_le.mp c)
        have e := t1_inc (x := x) (by omega) (by omega)
        have z3 := clampE (x + Int32.ofInt 1)
        rw [if_neg c, ih _ _ (by omega) (by omega) (by omega), show (x + Int32.ofInt 1).toNatClampNeg = x.toNatClampNeg + 1 from by omega]
        exact congrArg (fun q => (I, J, q, rj, rq)) (mapR_s (t := 74) (φ := fun _ => rfS a0) (r := r) (x := x.toNatClampNeg) (N := (I 65).toNatClampNeg) (by omega))
  rw [g_X2_growReef_e, go _ (0 : Int32) _ (by decide) h0 (Nat.lt_succ_self _)]
  rfl
/-! SAND, of the class -/
def lvS (d : Int32) (w s : Nat → Int32) (j : Nat) : Int32 := if w j = 0 then (if d < s j then d else s j) else 0
def wk1 (nx lv : Nat → Int32) (c : Nat) (s : Nat → Int32) : Nat → Int32 := if nx c = -1 then upd s c (s c - lv c) else upd (upd s c (s c - lv c)) (nx c).toNatClampNeg (upd s c (s c - lv c) (nx c).toNatClampNeg + lv c)
def wkS (nx lv : Nat → Int32) : Nat → Nat → (Nat → Int32) → Nat → Int32
  | 0, _, s => s
  | k + 1, c, s => wkS nx lv k (c + 1) (wk1 nx lv c s)
theorem walk_2 {J : Nat → Int64} {rj : Nat → Nat → Int64} {rq : Nat → Nat → Option Nat} {N : Int32} (h40 : N.toInt ≤ 40) : ∀ (n : Nat) (x : Int32) (I : Nat → Int32) (r : Nat → Nat → Int32), I 65 = N → 0 ≤ x.toInt → x.toInt ≤ N.toInt → (40 - x.toInt).toNat < n → ∃ I1 : Nat → Int32, (∀ f, f ≠ 66 → I1 f = I f) ∧ g_X2_walk_L47 J rj rq n x I r = (I1, J, va_up r 73 (wkS (r 79) (r 81) (N.toNatClampNeg - x.toNatClampNeg) x.toNatClampNeg (r 73)), rj, rq) := by
  intro n
  induction n with
  | zero => intro x I r _ _ _ h; exact absurd h (Nat.not_lt_zero _)
  | succ n ih =>
    intro x I r hI h1 h2 h3
    have z1 := clampE x
    have z2 := clampE N
    rw [g_X2_walk_L47_e]
    simp only [ap1, g_X2_walk_K118]
    by_cases c : I 65 ≤ x
    · have c1 := Int32.le_iff_toInt_le.mp c
      rw [hI] at c1
      rw [if_pos c, show N.toNatClampNeg - x.toNatClampNeg = 0 from by omega]
      exact ⟨I, fun _ _ => rfl, by rw [show wkS (r 79) (r 81) 0 x.toNatClampNeg (r 73) = r 73 from rfl, up_id]⟩
    · have c1 := Int32.lt_iff_toInt_lt.mp (Int32.not_le.mp c)
      rw [hI] at c1
      have e := t1_inc (x := x) (by omega) (by omega)
      have z3 := clampE (x + Int32.ofInt 1)
      rw [if_neg c, show N.toNatClampNeg - x.toNatClampNeg = (N.toNatClampNeg - (x + Int32.ofInt 1).toNatClampNeg) + 1 from by omega]
      have hx1 : (x + Int32.ofInt 1).toNatClampNeg = x.toNatClampNeg + 1 := by omega
      simp only [va_up_ne _ _ (show (79 : Nat) ≠ 73 by decide), va_up_ne _ _ (show (81 : Nat) ≠ 73 by decide), va_up_self]
      by_cases c2 : r 79 x.toNatClampNeg = -1
      · rw [if_pos c2]
        obtain ⟨I1, hI1, hv⟩ := ih (x + Int32.ofInt 1) (va_up I 66 (I 66 + r 81 x.toNatClampNeg)) (va_up r 73 (upd (r 73) x.toNatClampNeg (r 73 x.toNatClampNeg - r 81 x.toNatClampNeg))) ((va_up_ne _ _ (by decide)).trans hI) (by omega) (by omega) (by omega)
        refine ⟨I1, fun f hf => (hI1 f hf).trans (va_up_ne _ _ hf), ?_⟩
        rw [hv]
        simp only [va_up_ne _ _ (show (79 : Nat) ≠ 73 by decide), va_up_ne _ _ (show (81 : Nat) ≠ 73 by decide), va_up_self, up_up, hx1]
        show _ = (I1, J, va_up r 73 (wkS (r 79) (r 81) _ (x.toNatClampNeg + 1) (wk1 (r 79) (r 81) x.toNatClampNeg (r 73))), rj, rq)
        unfold wk1
        rw [if_pos c2]
      · rw [if_neg c2]
        obtain ⟨I1, hI1, hv⟩ := ih (x + Int32.ofInt 1) I (va_up (va_up r 73 (upd (r 73) x.toNatClampNeg (r 73 x.toNatClampNeg - r 81 x.toNatClampNeg))) 73 (upd (upd (r 73) x.toNatClampNeg (r 73 x.toNatClampNeg - r 81 x.toNatClampNeg)) (r 79 x.toNatClampNeg).toNatClampNeg (upd (r 73) x.toNatClampNeg (r 73 x.toNatClampNeg - r 81 x.toNatClampNeg) (r 79 x.toNatClampNeg).toNatClampNeg + r 81 x.toNatClampNeg))) hI (by omega) (by omega) (by omega)
        refine ⟨I1, hI1, ?_⟩
        rw [hv]
        simp only [va_up_ne _ _ (show (79 : Nat) ≠ 73 by decide), va_up_ne _ _ (show (81 : Nat) ≠ 73 by decide), va_up_self, up_up, hx1]
        show _ = (I1, J, va_up r 73 (wkS (r 79) (r 81) _ (x.toNatClampNeg + 1) (wk1 (r 79) (r 81) x.toNatClampNeg (r 73))), rj, rq)
        unfold wk1
        rw [if_neg c2]
theorem walk_1 {a0 : Int32} (h40 : (I 65).toInt ≤ 40) : ∀ (n : Nat) (x : Int32) (r : Nat → Nat → Int32), 0 ≤ x.toInt → x.toInt ≤ (I 65).toInt → (40 - x.toInt).toNat < n → g_X2_walk_L2 a0 I J rj rq n x r = g_X2_walk_L47 J rj rq ((40 - (0 : Int32).toInt).toNat + 1) 0 I (mapR 81 (fun j _ => lvS a0 (r 75) (r 73) j) x.toNatClampNeg (I 65).toNatClampNeg r) := by
  intro n
  induction n with
  | zero => intro x r _ _ h; exact absurd h (Nat.not_lt_zero _)
  | succ n ih =>
    intro x r h1 h2 h3
    have z1 := clampE x
    have z2 := clampE (I 65)
    rw [g_X2_walk_L2_e]
    simp only [ap1, g_X2_walk_K38]
    by_cases c : I 65 ≤ x
    · have c1 := Int32.le_iff_toInt_le.mp c
      rw [if_pos c, mapR_0 (by omega)]
    · have c1 := Int32.lt_iff_toInt_lt.mp (Int32.not_le.mp c)
      have e := t1_inc (x := x) (by omega) (by omega)
      have z3 := clampE (x + Int32.ofInt 1)
      have hx1 : (x + Int32.ofInt 1).toNatClampNeg = x.toNatClampNeg + 1 := by omega
      rw [if_neg c]
      have key : ∀ v : Int32, v = lvS a0 (r 75) (r 73) x.toNatClampNeg → g_X2_walk_L2 a0 I J rj rq n (x + Int32.ofInt 1) (va_up r 81 (upd (r 81) x.toNatClampNeg v)) = g_X2_walk_L47 J rj rq ((40 - (0 : Int32).toInt).toNat + 1) 0 I (mapR 81 (fun j _ => lvS a0 (r 75) (r 73) j) x.toNatClampNeg (I 65).toNatClampNeg r) := fun v hv => by
        rw [ih _ _ (by omega) (by omega) (by omega), hx1, va_up_ne _ _ (show (75 : Nat) ≠ 81 by decide), va_up_ne _ _ (show (73 : Nat) ≠ 81 by decide), hv]
        rw [mapR_s (t := 81) (φ := fun j _ => lvS a0 (r 75) (r 73) j) (r := r) (x := x.toNatClampNeg) (N := (I 65).toNatClampNeg) (by omega)]
      by_cases c2 : r 75 x.toNatClampNeg = 0
      · rw [if_pos c2]
        exact key _ (by unfold lvS; rw [if_pos c2])
      · rw [if_neg c2]
        exact key _ (by unfold lvS; rw [if_neg c2])
/-- what the SAND is when it has walked -/
def skS (d : Int32) (nx w s : Nat → Int32) (N : Nat) : Nat → Int32 := wkS nx (fun j => if j < N then lvS d w s j else 0) N 0 s
theorem wkS_cg {nx lv lv2 : Nat → Int32} : ∀ (k c : Nat) (s : Nat → Int32), (∀ j, c ≤ j → j < c + k → lv j = lv2 j) → wkS nx lv k c s = wkS nx lv2 k c s
  | 0, _, _, _ => rfl
  | k + 1, c, s, h => by
    show wkS nx lv k (c + 1) (wk1 nx lv c s) = wkS nx lv2 k (c + 1) (wk1 nx lv2 c s)
    rw [wkS_cg k (c + 1) _ (fun j h1 h2 => h j (by omega) (by omega))]
    unfold wk1
    rw [h c (Nat.le_refl _) (by omega)]
theorem walk_v {a0 : Int32} (h0 : 0 ≤ (I 65).toInt) (h40 : (I 65).toInt ≤ 40) : ∃ (I1 : Nat → Int32) (g : Nat → Int32), (∀ f, f ≠ 66 → I1 f = I f) ∧ g_X2_walk a0 I J ri rj rq = (I1, J, va_up (va_up ri 81 g) 73 (skS a0 (ri 79) (ri 75) (ri 73) (I 65).toNatClampNeg), rj, rq) := by
  rw [g_X2_walk_e, walk_1 h40 _ (0 : Int32) _ (by decide) h0 (Nat.lt_succ_self _)]
  obtain ⟨I1, hI1, hv⟩ := walk_2 (J := J) (rj := rj) (rq := rq) (N := I 65) h40 ((40 - (0 : Int32).toInt).toNat + 1) 0 I (mapR 81 (fun j _ => lvS a0 (ri 75) (ri 73) j) (0 : Int32).toNatClampNeg (I 65).toNatClampNeg ri) rfl (by decide) h0 (Nat.lt_succ_self _)
  refine ⟨I1, fun j => if (0 : Int32).toNatClampNeg ≤ j ∧ j < (I 65).toNatClampNeg then lvS a0 (ri 75) (ri 73) j else ri 81 j, hI1, ?_⟩
  rw [hv]
  have z : (0 : Int32).toNatClampNeg = 0 := by decide
  rw [mapR_o (show (79 : Nat) ≠ 81 by decide), mapR_o (show (73 : Nat) ≠ 81 by decide), mapR_t, z]
  unfold skS
  rw [Nat.sub_zero, wkS_cg (lv2 := fun j => if j < (I 65).toNatClampNeg then lvS a0 (ri 75) (ri 73) j else 0) _ _ _ (fun j _ h2 => by
    have h2 : j < (I 65).toNatClampNeg := by omega
    show (if 0 ≤ j ∧ j < (I 65).toNatClampNeg then _ else _) = _
    rw [if_pos ⟨Nat.zero_le _, h2⟩, if_pos h2])]
  rfl
end PU1
