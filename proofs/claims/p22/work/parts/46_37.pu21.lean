/-! ===== pure: THE FUND and AREA of a month, both sides (behind pu20, pz, pv) ===== -/
section PU21
variable {I : Nat → Int32} {J : Nat → Int64} {ri : Nat → Nat → Int32} {rj : Nat → Nat → Int64} {rq : Nat → Nat → Option Nat}
/-- what those ABROAD send -/
def snC (pl sd : Nat → Int32) : Nat → Int32
  | 0 => 0
  | n + 1 => snC pl sd n + (if pl n = 200 then sd n else 0)
/-- what the WALLS cost -/
def wlC (w : Nat → Int32) (k : Int32) : Nat → Int32
  | 0 => 0
  | n + 1 => wlC w k n + (if w n ≤ 0 then 0 else k)
theorem snC_cg {pl sd pl' sd' : Nat → Int32} : ∀ n : Nat, (∀ p, p < n → (pl' p = 200 ↔ pl p = 200) ∧ sd' p = sd p) → snC pl' sd' n = snC pl sd n
  | 0, _ => rfl
  | n + 1, h => by
    show snC pl' sd' n + _ = snC pl sd n + _
    rw [snC_cg n (fun p hp => h p (by omega)), (h n (Nat.lt_succ_self n)).2]
    by_cases q : pl n = 200
    · rw [if_pos q, if_pos ((h n (Nat.lt_succ_self n)).1.mpr q)]
    · rw [if_neg q, if_neg (fun y => q ((h n (Nat.lt_succ_self n)).1.mp y))]
theorem wlC_cg {w w' : Nat → Int32} {k : Int32} : ∀ n : Nat, (∀ p, p < n → w' p = w p) → wlC w' k n = wlC w k n
  | 0, _ => rfl
  | n + 1, h => by
    show wlC w' k n + _ = wlC w k n + _
    rw [wlC_cg n (fun p hp => h p (by omega)), h n (Nat.lt_succ_self n)]
theorem i_ss (a b c : Int32) : a - b - c = a - (b + c) := by grind
theorem i_m1 (k c : Int32) : k * (c + Int32.ofInt 1) = k * c + k := by
  rw [show Int32.ofInt 1 = (1 : Int32) from rfl]
  grind
theorem i_fu (a s t w : Int32) : a + (s + t - w) = a + s + t - w := by grind
theorem i_a0 (a : Int32) : a + 0 = a := by grind
theorem i_s0 (a : Int32) : a - 0 = a := by grind
theorem sendings_v (h0 : 0 ≤ (I 0).toInt) (h40 : (I 0).toInt ≤ 40) : g_X0_sendings I J ri rj rq = (snC (ri 5) (ri 4) (I 0).toNatClampNeg, I, J, ri, rj, rq) := by
  have zN := clampE (I 0)
  have go : ∀ (n : Nat) (x : Int32), 0 ≤ x.toInt → x.toInt ≤ (I 0).toInt → (40 - x.toInt).toNat < n → g_X0_sendings_L4 I J ri rj rq n (snC (ri 5) (ri 4) x.toNatClampNeg) x = (snC (ri 5) (ri 4) (I 0).toNatClampNeg, I, J, ri, rj, rq) := by
    intro n
    induction n with
    | zero => intro x _ _ h; exact absurd h (Nat.not_lt_zero _)
    | succ n ih =>
      intro x h1 h2 h3
      have zx := clampE x
      rw [g_X0_sendings_L4_e]
      simp only [↓ap1_n]
      by_cases c : I 0 ≤ x
      · have c1 := Int32.le_iff_toInt_le.mp c
        rw [if_pos c, show x.toNatClampNeg = (I 0).toNatClampNeg by omega]
      · have c1 := Int32.lt_iff_toInt_lt.mp (Int32.not_le.mp c)
        have e := t1_inc (x := x) (by omega) (by omega)
        have z3 := clampE (x + Int32.ofInt 1)
        have hx1 : (x + Int32.ofInt 1).toNatClampNeg = x.toNatClampNeg + 1 := by omega
        have nx := ih (x + Int32.ofInt 1) (by omega) (by omega) (by omega)
        rw [hx1] at nx
        rw [if_neg c]
        by_cases d : ri 5 x.toNatClampNeg = 200
        · rw [if_pos d, g_X0_sendings_K33_e]
          simp only [↓ap1_n]
          rw [show snC (ri 5) (ri 4) x.toNatClampNeg + ri 4 x.toNatClampNeg = snC (ri 5) (ri 4) (x.toNatClampNeg + 1) by
            show _ = snC (ri 5) (ri 4) x.toNatClampNeg + (if ri 5 x.toNatClampNeg = 200 then ri 4 x.toNatClampNeg else 0)
            rw [if_pos d]]
          exact nx
        · rw [if_neg d, g_X0_sendings_K33_e]
          simp only [↓ap1_n]
          rw [show snC (ri 5) (ri 4) x.toNatClampNeg = snC (ri 5) (ri 4) (x.toNatClampNeg + 1) by
            show _ = snC (ri 5) (ri 4) x.toNatClampNeg + (if ri 5 x.toNatClampNeg = 200 then ri 4 x.toNatClampNeg else 0)
            rw [if_neg d, i_a0]]
          exact nx
  rw [g_X0_sendings_e]
  have h := go ((40 - (0 : Int32).toInt).toNat + 1) 0 (by decide) h0 (Nat.lt_succ_self _)
  rw [show (0 : Int32).toNatClampNeg = 0 by decide] at h
  exact h
theorem countWalls_v (h0 : 0 ≤ (I 65).toInt) (h40 : (I 65).toInt ≤ 40) : ∃ w : Int32, g_X2_countWalls I J ri rj rq = (w, I, J, ri, rj, rq) ∧ ∀ k : Int32, k * w = wlC (ri 75) k (I 65).toNatClampNeg := by
  have zN := clampE (I 65)
  have go : ∀ (n : Nat) (u x : Int32), 0 ≤ x.toInt → x.toInt ≤ (I 65).toInt → (40 - x.toInt).toNat < n → (∀ k : Int32, k * u = wlC (ri 75) k x.toNatClampNeg) → ∃ w : Int32, g_X2_countWalls_L4 I J ri rj rq n u x = (w, I, J, ri, rj, rq) ∧ ∀ k : Int32, k * w = wlC (ri 75) k (I 65).toNatClampNeg := by
    intro n
    induction n with
    | zero => intro u x _ _ h; exact absurd h (Nat.not_lt_zero _)
    | succ n ih =>
      intro u x h1 h2 h3 hu
      have zx := clampE x
      rw [g_X2_countWalls_L4_e]
      simp only [↓ap1_n]
      by_cases c : I 65 ≤ x
      · have c1 := Int32.le_iff_toInt_le.mp c
        rw [if_pos c]
        exact ⟨u, rfl, fun k => by rw [hu k, show x.toNatClampNeg = (I 65).toNatClampNeg by omega]⟩
      · have c1 := Int32.lt_iff_toInt_lt.mp (Int32.not_le.mp c)
        have e := t1_inc (x := x) (by omega) (by omega)
        have z3 := clampE (x + Int32.ofInt 1)
        have hx1 : (x + Int32.ofInt 1).toNatClampNeg = x.toNatClampNeg + 1 := by omega
        rw [if_neg c]
        by_cases d : ri 75 x.toNatClampNeg ≤ 0
        · rw [if_pos d, g_X2_countWalls_K24_e]
          simp only [↓ap1_n]
          refine ih _ _ (by omega) (by omega) (by omega) (fun k => ?_)
          rw [hx1, hu k]
          show _ = wlC (ri 75) k x.toNatClampNeg + (if ri 75 x.toNatClampNeg ≤ 0 then 0 else k)
          rw [if_pos d, i_a0]
        · rw [if_neg d, g_X2_countWalls_K24_e]
          simp only [↓ap1_n]
          refine ih _ _ (by omega) (by omega) (by omega) (fun k => ?_)
          rw [hx1, i_m1, hu k]
          show _ = wlC (ri 75) k x.toNatClampNeg + (if ri 75 x.toNatClampNeg ≤ 0 then 0 else k)
          rw [if_neg d]
  rw [g_X2_countWalls_e]
  exact go ((40 - (0 : Int32).toInt).toNat + 1) 0 0 (by decide) h0 (Nat.lt_succ_self _) (fun k => by
    rw [show (0 : Int32).toNatClampNeg = 0 by decide]
    show k * 0 = 0
    grind)
/-- the reference's PLACES and what they send; its WALLS -/
def plA (A : Nat → Int32) : Nat → Int32 := fun p => A (740 + 12 * p + 3)
def sdA (A : Nat → Int32) : Nat → Int32 := fun p => A (740 + 12 * p + 4)
def wlA (A : Nat → Int32) : Nat → Int32 := fun c => A (100 + 16 * c + 6)
theorem fundGoes_v {m : Int32} (h2a : 0 ≤ (ri 384 2).toInt) (h2b : (ri 384 2).toInt ≤ 40) (h5a : 0 ≤ (ri 384 5).toInt) (h5b : (ri 384 5).toInt ≤ 40) (h407 : I 407 = 0) : ∃ (B Bs : Nat → Int32) (ar lv F : Int32) (I1 : Nat → Int32), (∀ i, i ≠ 8 → Bs i = ri 384 i) ∧ g_X12_areaOf m (va_up I 410 0) J (va_up ri 384 Bs) rj rq = (ar, va_up I 410 0, J, va_up ri 384 Bs, rj, rq) ∧ g_X12_numberOf 9 m 10 (va_up I 410 0) J (va_up ri 384 (upd Bs 18 ar)) rj rq = (lv, va_up I 410 0, J, va_up ri 384 (upd Bs 18 ar), rj, rq) ∧ g_X12_fundGoes m I J ri rj rq = (I1, J, va_up ri 384 B, rj, rq) ∧ (∀ f, f ≠ 410 → I1 f = I f) ∧ I1 410 = (if F < 0 then 1 else 0) ∧ F = ri 384 8 + snC (plA (ri 384)) (sdA (ri 384)) (ri 384 5).toNatClampNeg + lv * ar / 100 - wlC (wlA (ri 384)) (ri 384 17) (ri 384 2).toNatClampNeg ∧ (∀ i, i ≠ 8 → i ≠ 12 → i ≠ 18 → B i = ri 384 i) ∧ B 18 = ar ∧ B 8 = F ∧ B 12 = (if F < 0 then (if 0 ≤ ri 384 12 then ri 384 12 else m) else ri 384 12) := by
  have k8 : (8 : Int32).toNatClampNeg = 8 := by decide
  have k12 : (12 : Int32).toNatClampNeg = 12 := by decide
  have k17 : (17 : Int32).toNatClampNeg = 17 := by decide
  have k18 : (18 : Int32).toNatClampNeg = 18 := by decide
  have z2 := clampE (ri 384 2)
  have z5 := clampE (ri 384 5)
  -- the WALLS
  have go2 : ∀ (n : Nat) (x : Int32) (A : Nat → Int32) (I0 : Nat → Int32) (ar F0 : Int32), 0 ≤ x.toInt → x.toInt ≤ (ri 384 2).toInt → (40 - x.toInt).toNat < n → (∀ i, i ≠ 8 → i ≠ 18 → A i = ri 384 i) → A 18 = ar → A 8 = F0 - wlC (wlA (ri 384)) (ri 384 17) x.toNatClampNeg → I0 410 = 0 → ∃ (B I1 : Nat → Int32), g_X12_fundGoes_L104 m J ri rj rq I0 n x (va_up ri 384 A) = (I1, J, va_up ri 384 B, rj, rq) ∧ (∀ f, f ≠ 410 → I1 f = I0 f) ∧ I1 410 = (if F0 - wlC (wlA (ri 384)) (ri 384 17) (ri 384 2).toNatClampNeg < 0 then 1 else 0) ∧ (∀ i, i ≠ 8 → i ≠ 12 → i ≠ 18 → B i = ri 384 i) ∧ B 18 = ar ∧ B 8 = F0 - wlC (wlA (ri 384)) (ri 384 17) (ri 384 2).toNatClampNeg ∧ B 12 = (if F0 - wlC (wlA (ri 384)) (ri 384 17) (ri 384 2).toNatClampNeg < 0 then (if 0 ≤ ri 384 12 then ri 384 12 else m) else ri 384 12) := by
    intro n
    induction n with
    | zero => intro x A I0 ar F0 _ _ h; exact absurd h (Nat.not_lt_zero _)
    | succ n ih =>
      intro x A I0 ar F0 h1 h2 h3 hA h18 h8 h410
      have zx := clampE x
      rw [g_X12_fundGoes_L104_e]
      simp only [↓ap1_n, va_up_self, up_up, k8, k12, k17]
      by_cases c : ri 384 2 ≤ x
      · have c1 := Int32.le_iff_toInt_le.mp c
        rw [show x.toNatClampNeg = (ri 384 2).toNatClampNeg by omega] at h8
        have a12 := hA 12 (by decide) (by decide)
        rw [if_pos c, h8, a12]
        by_cases d : F0 - wlC (wlA (ri 384)) (ri 384 17) (ri 384 2).toNatClampNeg < 0
        · simp only [if_pos d]
          by_cases w : 0 ≤ ri 384 12
          · simp only [if_pos w]
            exact ⟨A, va_up I0 410 1, rfl, fun f hf => va_up_ne _ _ hf, va_up_self _ _ _, fun i i1 _ i3 => hA i i1 i3, h18, h8, a12⟩
          · simp only [if_neg w]
            refine ⟨upd A 12 m, va_up I0 410 1, rfl, fun f hf => va_up_ne _ _ hf, va_up_self _ _ _, fun i i1 i2 i3 => (upd_n _ _ i2).trans (hA i i1 i3), (upd_n _ _ (by decide)).trans h18, (upd_n _ _ (by decide)).trans h8, upd_s _ _ _⟩
        · simp only [if_neg d]
          exact ⟨A, I0, rfl, fun _ _ => rfl, h410, fun i i1 _ i3 => hA i i1 i3, h18, h8, a12⟩
      · have c1 := Int32.lt_iff_toInt_lt.mp (Int32.not_le.mp c)
        have e := t1_inc (x := x) (by omega) (by omega)
        have z3 := clampE (x + Int32.ofInt 1)
        have hx1 : (x + Int32.ofInt 1).toNatClampNeg = x.toNatClampNeg + 1 := by omega
        have cell : g_X12_cellAt_c6 x I0 J (va_up ri 384 A) rj rq = (wlA (ri 384) x.toNatClampNeg, I0, J, va_up ri 384 A, rj, rq) := by
          have i6 := ixk (c := x) (k := 6) 6 (by decide) (by decide) h1 (by omega)
          have e6 : g_X12_cellAt_c6 x I0 J (va_up ri 384 A) rj rq = (va_up ri 384 A 384 ((100 : Int32) + (16 : Int32) * x + 6).toNatClampNeg, I0, J, va_up ri 384 A, rj, rq) := rfl
          rw [e6, i6, va_up_self, hA _ (by omega) (by omega)]
          rfl
        rw [if_neg c, bn_n cell]
        by_cases d : wlA (ri 384) x.toNatClampNeg ≤ 0
        · rw [if_pos d, g_X12_fundGoes_K141_e]
          simp only [↓ap1_n]
          refine ih _ _ _ _ _ (by omega) (by omega) (by omega) hA h18 ?_ h410
          rw [h8, hx1]
          show _ = F0 - (wlC (wlA (ri 384)) (ri 384 17) x.toNatClampNeg + (if wlA (ri 384) x.toNatClampNeg ≤ 0 then 0 else ri 384 17))
          rw [if_pos d, i_a0]
        · rw [if_neg d, g_X12_fundGoes_K141_e]
          simp only [↓ap1_n]
          refine ih _ _ _ _ _ (by omega) (by omega) (by omega) (fun i i1 i3 => (upd_n _ _ i1).trans (hA i i1 i3)) ((upd_n _ _ (by decide)).trans h18) ?_ h410
          rw [upd_s, h8, hA 17 (by decide) (by decide), hx1, i_ss]
          show _ = F0 - (wlC (wlA (ri 384)) (ri 384 17) x.toNatClampNeg + (if wlA (ri 384) x.toNatClampNeg ≤ 0 then 0 else ri 384 17))
          rw [if_neg d]
  -- those ABROAD
  have go : ∀ (n : Nat) (x : Int32) (A : Nat → Int32), 0 ≤ x.toInt → x.toInt ≤ (ri 384 5).toInt → (40 - x.toInt).toNat < n → (∀ i, i ≠ 8 → A i = ri 384 i) → A 8 = ri 384 8 + snC (plA (ri 384)) (sdA (ri 384)) x.toNatClampNeg → ∃ (Bs : Nat → Int32), (∀ i, i ≠ 8 → Bs i = ri 384 i) ∧ Bs 8 = ri 384 8 + snC (plA (ri 384)) (sdA (ri 384)) (ri 384 5).toNatClampNeg ∧ g_X12_fundGoes_L2 m I J ri rj rq n x (va_up ri 384 A) = (bnI (g_X12_areaOf m (va_up I 410 0) J (va_up ri 384 Bs) rj rq) fun ar _ _ _ _ _ => bnI (g_X12_numberOf 9 m 10 (va_up I 410 0) J (va_up ri 384 (upd Bs 18 ar)) rj rq) fun lv _ _ _ _ _ => g_X12_fundGoes_L104 m J ri rj rq (va_up I 410 0) ((40 - (0 : Int32).toInt).toNat + 1) 0 (va_up ri 384 (upd (upd Bs 18 ar) 8 (Bs 8 + lv * ar / 100)))) := by
    intro n
    induction n with
    | zero => intro x A _ _ h; exact absurd h (Nat.not_lt_zero _)
    | succ n ih =>
      intro x A h1 h2 h3 hA h8
      have zx := clampE x
      rw [g_X12_fundGoes_L2_e]
      simp only [↓ap1_n]
      by_cases c : ri 384 5 ≤ x
      · have c1 := Int32.le_iff_toInt_le.mp c
        rw [show x.toNatClampNeg = (ri 384 5).toNatClampNeg by omega] at h8
        rw [if_pos c, if_neg (show ¬ va_up I 410 0 407 = 1 by rw [va_up_ne _ _ (show (407 : Nat) ≠ 410 by decide), h407]; decide)]
        refine ⟨A, hA, h8, ?_⟩
        rw [bn_p g_X12_areaOf_f, bn_p g_X12_areaOf_f]
        try simp only [va_up_self, up_up, k8, k18]
        rw [bn_p g_X12_numberOf_f, bn_p g_X12_numberOf_f]
        try simp only [va_up_self, up_up, k8, k18]
        rw [upd_s, upd_n _ _ (show (8 : Nat) ≠ 18 by decide)]
      · have c1 := Int32.lt_iff_toInt_lt.mp (Int32.not_le.mp c)
        have e := t1_inc (x := x) (by omega) (by omega)
        have z3 := clampE (x + Int32.ofInt 1)
        have hx1 : (x + Int32.ofInt 1).toNatClampNeg = x.toNatClampNeg + 1 := by omega
        have p3 : g_X12_personAt_c3 x I J (va_up ri 384 A) rj rq = (plA (ri 384) x.toNatClampNeg, I, J, va_up ri 384 A, rj, rq) := by
          have i3 := ixp (c := x) (k := 3) 3 (by decide) (by decide) h1 (by omega)
          have e3 : g_X12_personAt_c3 x I J (va_up ri 384 A) rj rq = (va_up ri 384 A 384 ((740 : Int32) + (12 : Int32) * x + 3).toNatClampNeg, I, J, va_up ri 384 A, rj, rq) := rfl
          rw [e3, i3, va_up_self, hA _ (by omega)]
          rfl
        have p4 : g_X12_personAt_c4 x I J (va_up ri 384 A) rj rq = (sdA (ri 384) x.toNatClampNeg, I, J, va_up ri 384 A, rj, rq) := by
          have i4 := ixp (c := x) (k := 4) 4 (by decide) (by decide) h1 (by omega)
          have e4 : g_X12_personAt_c4 x I J (va_up ri 384 A) rj rq = (va_up ri 384 A 384 ((740 : Int32) + (12 : Int32) * x + 4).toNatClampNeg, I, J, va_up ri 384 A, rj, rq) := rfl
          rw [e4, i4, va_up_self, hA _ (by omega)]
          rfl
        rw [if_neg c, bn_n p3]
        by_cases d : plA (ri 384) x.toNatClampNeg = 200
        · rw [if_pos d, bn_n p4, g_X12_fundGoes_K40_e]
          simp only [↓ap1_n, va_up_self, up_up, k8]
          refine ih _ _ (by omega) (by omega) (by omega) (fun i i1 => (upd_n _ _ i1).trans (hA i i1)) ?_
          rw [upd_s, h8, hx1]
          show _ = ri 384 8 + (snC (plA (ri 384)) (sdA (ri 384)) x.toNatClampNeg + (if plA (ri 384) x.toNatClampNeg = 200 then sdA (ri 384) x.toNatClampNeg else 0))
          rw [if_pos d]
          grind
        · rw [if_neg d, g_X12_fundGoes_K40_e]
          simp only [↓ap1_n]
          refine ih _ _ (by omega) (by omega) (by omega) hA ?_
          rw [h8, hx1]
          show _ = ri 384 8 + (snC (plA (ri 384)) (sdA (ri 384)) x.toNatClampNeg + (if plA (ri 384) x.toNatClampNeg = 200 then sdA (ri 384) x.toNatClampNeg else 0))
          rw [if_neg d, i_a0]
  have n0 : (0 : Int32).toNatClampNeg = 0 := by decide
  obtain ⟨Bs, b1, b2, b3⟩ := go ((40 - (0 : Int32).toInt).toNat + 1) 0 (ri 384) (by decide) h5a (Nat.lt_succ_self _) (fun _ _ => rfl) (by
    rw [n0]
    show _ = ri 384 8 + 0
    rw [i_a0])
  rw [up_id] at b3
  have pa := fg_pure (g_X12_areaOf_f (a0 := m) (I := va_up I 410 0) (J := J) (ri := va_up ri 384 Bs) (rj := rj) (rq := rq))
  generalize (g_X12_areaOf m (va_up I 410 0) J (va_up ri 384 Bs) rj rq).1 = ar at pa
  have pn := fg_pure (g_X12_numberOf_f (a0 := 9) (a1 := m) (a2 := 10) (I := va_up I 410 0) (J := J) (ri := va_up ri 384 (upd Bs 18 ar)) (rj := rj) (rq := rq))
  generalize (g_X12_numberOf 9 m 10 (va_up I 410 0) J (va_up ri 384 (upd Bs 18 ar)) rj rq).1 = lv at pn
  rw [bn_n pa, bn_n pn] at b3
  obtain ⟨B, I1, c1, c2, c3, c4, c5, c6, c7⟩ := go2 ((40 - (0 : Int32).toInt).toNat + 1) 0 (upd (upd Bs 18 ar) 8 (Bs 8 + lv * ar / 100)) (va_up I 410 0) ar (ri 384 8 + snC (plA (ri 384)) (sdA (ri 384)) (ri 384 5).toNatClampNeg + lv * ar / 100) (by decide) h2a (Nat.lt_succ_self _) (fun i i1 i2 => by rw [upd_n _ _ i1, upd_n _ _ i2]; exact b1 i i1) (by rw [upd_n _ _ (by decide), upd_s]) (by
    rw [upd_s, n0, b2]
    show _ = _ - 0
    rw [i_s0]) (va_up_self _ _ _)
  refine ⟨B, Bs, ar, lv, _, I1, b1, pa, pn, ?_, fun f hf => (c2 f hf).trans (va_up_ne _ _ hf), c3, rfl, c4, c5, c6, c7⟩
  rw [g_X12_fundGoes_e]
  exact b3.trans c1
end PU21
